/-! plans of the class: step, run, perform -/
abbrev canSt (s : PS) (w : WT) (x : ST) : Prop := if x.1 = 0 then can0 s w x.2.1 else if x.1 = 1 then can1 s w x.2.1 else if x.1 = 2 then can2 s w x.2.1 else can3 s w x.2.1 x.2.2
theorem canSt_0 {s : PS} {w : WT} {a b : Int} : canSt s w (0, a, b) ↔ can0 s w a := Iff.rfl
theorem canSt_1 {s : PS} {w : WT} {a b : Int} : canSt s w (1, a, b) ↔ can1 s w a := Iff.rfl
theorem canSt_2 {s : PS} {w : WT} {a b : Int} : canSt s w (2, a, b) ↔ can2 s w a := Iff.rfl
theorem canSt_3 {s : PS} {w : WT} {a b : Int} : canSt s w (3, a, b) ↔ can3 s w a b := Iff.rfl
/-- by hand; days apart -/
def tkW (w : WT) (x : ST) : WT := if x.1 = 0 then setO w (opn w ||| 2 ^ x.2.1.toNat) else if x.1 = 1 then setO w (clrB (opn w) x.2.1.toNat) else if x.1 = 2 then w else pourF w x.2.1.toNat x.2.2
def stW (s : PS) (hv : Option (List CL)) (w : WT) (x : ST) : WT := if x.1 = 2 then daysF s hv x.2.1.toNat w else tkW w x
theorem tkW_dy {w : WT} {x : ST} : dy (tkW w x) = dy w := by unfold tkW; split <;> (try split) <;> (try split) <;> rfl
theorem tkW_ok {s : PS} {w : WT} {x : ST} (hS : TwK s) (hw : WK s w) (hc : canSt s w x) : WK s (tkW w x) := by
  obtain ⟨k, a, b⟩ := x
  unfold tkW
  unfold canSt at hc
  dsimp only at hc ⊢
  by_cases h0 : k = 0
  · rw [if_pos h0] at hc ⊢
    exact setO_ok hw (or_lt _ (by have := hS.2.1; omega) _ (by have := hc.1; have := hc.2.1; omega) _ hw.2.2.1)
  rw [if_neg h0] at hc ⊢
  by_cases h1 : k = 1
  · rw [if_pos h1] at hc ⊢
    exact setO_ok hw (clr_lt _ (by have := hS.2.1; omega) _ (by have := hc.1; have := hc.2.1; omega) _ hw.2.2.1)
  rw [if_neg h1] at hc ⊢
  by_cases h2 : k = 2
  · rw [if_pos h2]; exact hw
  rw [if_neg h2] at hc ⊢
  exact WK_po hw hc
theorem stW_ok {s : PS} {hv : Option (List CL)} {w : WT} {x : ST} (hS : TwK s) (hw : WK s w) (hd : dy w ≤ 9999) (hc : canSt s w x) : WK s (stW s hv w x) ∧ dy (stW s hv w x) ≤ 9999 := by
  unfold stW
  by_cases h2 : x.1 = 2
  · rw [if_pos h2]
    unfold canSt at hc
    rw [if_neg (by omega), if_neg (by omega), if_pos h2] at hc
    have := daysF_ok (hv := hv) hS x.2.1.toNat w hw (by omega)
    exact ⟨this.1, by rw [this.2.2]; omega⟩
  · rw [if_neg h2]
    exact ⟨tkW_ok hS hw hc, by rw [tkW_dy]; exact hd⟩
def runF (s : PS) (hv : Option (List CL)) : List ST → WT → Nat × WT
  | [], w => (0, w)
  | x :: L, w => if canSt s w x then ((runF s hv L (stW s hv w x)).1 + 1, (runF s hv L (stW s hv w x)).2) else (0, w)
theorem runF_y {s : PS} {hv : Option (List CL)} {x : ST} {L : List ST} {w : WT} (h : canSt s w x) : runF s hv (x :: L) w = ((runF s hv L (stW s hv w x)).1 + 1, (runF s hv L (stW s hv w x)).2) := if_pos h
theorem runF_n {s : PS} {hv : Option (List CL)} {x : ST} {L : List ST} {w : WT} (h : ¬ canSt s w x) : runF s hv (x :: L) w = (0, w) := if_neg h
theorem runF_ok {s : PS} {hv : Option (List CL)} (hS : TwK s) : ∀ (L : List ST) (w : WT), WK s w → dy w ≤ 9999 → (runF s hv L w).1 ≤ L.length ∧ WK s (runF s hv L w).2
  | [], w, hw, _ => ⟨Nat.le_refl _, hw⟩
  | x :: L, w, hw, hd => by
    by_cases h : canSt s w x
    · rw [runF_y h]
      have h1 := stW_ok (hv := hv) hS hw hd h
      have h2 := runF_ok (hv := hv) hS L (stW s hv w x) h1.1 h1.2
      exact ⟨by rw [List.length_cons]; exact Nat.succ_le_succ h2.1, h2.2⟩
    · rw [runF_n h]; exact ⟨Nat.zero_le _, hw⟩
theorem ct_canBeS {l : Launch} {D : va_G} {cA ad : Nat → Nat} {d : Nat} {σ : AS} {K : Option Value → AS → Prop} {s : PS} {w : WT} {b : Nat} {x : ST} (hR : RO σ) (hT : TwC σ s) (hS : TwK s) (hb : WB b) (hW : WC σ b w) (hw : WK s w) (hx : stOKp x) (hK1 : canSt s w x → K (some (.int (iI 1))) σ) (hK0 : ¬ canSt s w x → K (some (.int (iI 0))) σ) : Call l D cA ad (d + 1) mX6_canBe [.ref 105, .int (iI x.1), .int (iI x.2.1), .int (iI x.2.2), .ref b] σ K := by
  obtain ⟨k, a, c⟩ := x
  unfold stOKp at hx
  dsimp only at hx ⊢
  rcases (show k = 0 ∨ k = 1 ∨ k = 2 ∨ k = 3 by omega) with rfl | rfl | rfl | rfl
  · exact ct_canBe0 hR hT hS hb hW hw (by omega) hK1 hK0
  · exact ct_canBe1 hR hT hS hb hW hw (by omega) hK1 hK0
  · exact ct_canBe2 hR hT hS hb hW hw (by omega) hK1 hK0
  · exact ct_canBe3 hR hT hS hb hW hw (by omega) (by omega) hK1 hK0
theorem ct_takeS {l : Launch} {D : va_G} {cA ad : Nat → Nat} {d : Nat} {σ : AS} {K : Option Value → AS → Prop} {s : PS} {w : WT} {b : Nat} {x : ST} (hR : RO σ) (hS : TwK s) (hb : WB b) (hW : WC σ b w) (hw : WK s w) (hx : stOKp x) (hc : canSt s w x) (hK : ∀ τ, Fr b (b + 3) σ τ → WC τ b (tkW w x) → K none τ) : Call l D cA ad d mX10_take [.ref b, .int (iI x.1), .int (iI x.2.1), .int (iI x.2.2)] σ K := by
  obtain ⟨k, a, c⟩ := x
  have hP7 := hS.1
  have hQ9 := hS.2.1
  unfold stOKp at hx
  dsimp only at hx ⊢
  obtain ⟨n, rfl⟩ : ∃ n : Nat, a = n := ⟨a.toNat, by omega⟩
  rcases (show k = 0 ∨ k = 1 ∨ k = 2 ∨ k = 3 by omega) with rfl | rfl | rfl | rfl
  · have hc := canSt_0.mp hc
    exact ct_take0 hR hb hW (pw512 hS hw) (by have := hc.2.1; omega) hK
  · have hc := canSt_1.mp hc
    exact ct_take1 hR hb hW (pw512 hS hw) (by have := hc.2.1; omega) hK
  · exact ct_take2 hR hb hW (hK σ Fr.rf hW)
  · have hc := canSt_3.mp hc
    exact ct_take3 hR hb hW (by have := hc.2.1; omega) hK
def PB (b : Nat) : Prop := sh[b]? = some (0, 7) ∧ sh[b + 1]? = some (1, 16) ∧ sh[b + 2]? = some (1, 16) ∧ sh[b + 3]? = some (1, 16) ∧ R0 b 0 = some (b + 1) ∧ R0 b 1 = some (b + 2) ∧ R0 b 2 = some (b + 3) ∧ 67 ≤ b ∧ b ≤ 79
theorem PB_k : ∀ k, k < 4 → PB (67 + 4 * k) ∧ R0 66 k = some (67 + 4 * k) := by unfold PB; decide +kernel
theorem PLC_q {σ τ : AS} {b : Nat} {L : List ST} (h : PLC σ b L) (hb : PB b) (hq : QF σ τ) : PLC τ b L := PLC_fr h (fun k h1 h2 => hq.2.2.1 k (by unfold uC; have := hb.2.2.2.2.2.2.2; omega))
theorem drop_cons {α : Type} {L R : List α} {i : Nat} {x : α} (h : L.drop i = x :: R) : L[i]? = some x ∧ L.drop (i + 1) = R ∧ i < L.length := by
  have h1 : (L.drop i)[0]? = some x := by rw [h]; rfl
  rw [List.getElem?_drop] at h1
  refine ⟨by simpa using h1, ?_, (List.getElem?_eq_some_iff.mp (by simpa using h1)).1⟩
  have : (L.drop i).drop 1 = L.drop (i + 1) := by rw [List.drop_drop]
  rw [← this, h]
  rfl
theorem drop_nil {α : Type} {L : List α} {i : Nat} (h : L.drop i = []) (hi : i ≤ L.length) : i = L.length := by
  have := congrArg List.length h
  rw [List.length_drop] at this
  simp at this
  omega
theorem ct_X11_hasPlan {l : Launch} {D : va_G} {cA ad : Nat → Nat} {d : Nat} {σ : AS} {K : Option Value → AS → Prop} {X : XS} {a : Int} (hR : RO σ) (hK0 : XK X) (hC : CI σ X) (ha32 : -2147483648 ≤ a ∧ a < 2147483648) (hK1 : ∀ (n : Nat) (L : List ST), a = n → (xp X)[n]? = some L → K (some (.int (iI 1))) σ) (hK2 : ¬ (0 ≤ a ∧ a < (xp X).length) → K (some (.int (iI 0))) σ) : Call l D cA ad d mX11_hasPlan [.ref 0, .int (iI a)] σ K := by
  have hp4 := hK0.p.1
  refine call_go (by decide) (Nat.le_of_ble_eq_true rfl) (show Go l D cA ad d mX11_hasPlan 0 [.ref 0, .int (iI a)] [] σ K from ?_)
  refine go_iload_n dX11_hasPlan_0 rfl ?_
  refine go_if_lt (tgt := 16) dX11_hasPlan_1 (by decide) (fun h1 => ?_) (fun h1 => ?_)
  · rw [iI_lt0 (by omega)] at h1
    refine go_iconst (v := iI 0) dX11_hasPlan_16 (by decide) ?_
    refine go_iret rfl rfl dX11_hasPlan_17 ?_
    exact hK2 (by omega)
  · rw [iI_lt0 (by omega)] at h1
    refine go_iload_n dX11_hasPlan_4 rfl ?_
    refine go_aload_n dX11_hasPlan_5 rfl ?_
    refine go_getI fX11_359 dX11_hasPlan_6 rfl ?_
    rw [hC.2.2.2.2.2.2.2.2.1.1]
    refine go_icmp_ge (tgt := 16) dX11_hasPlan_9 (by decide) (fun h9 => ?_) (fun h9 => ?_)
    · rw [iI_le (by omega)] at h9
      refine go_iconst (v := iI 0) dX11_hasPlan_16 (by decide) ?_
      refine go_iret rfl rfl dX11_hasPlan_17 ?_
      exact hK2 (by omega)
    · rw [iI_le (by omega)] at h9
      refine go_iconst (v := iI 1) dX11_hasPlan_12 (by decide) ?_
      refine go_goto (tgt := 17) dX11_hasPlan_13 (by decide) ?_
      refine go_iret rfl rfl dX11_hasPlan_17 ?_
      exact hK1 a.toNat _ (by omega) (List.getElem?_eq_getElem (by omega))

def stpA (X : XS) (a i j : Int) : Int := match (xp X)[a.toNat]? with
  | none => -1000000
  | some L => if 0 ≤ a ∧ (0 ≤ i ∧ i < L.length) ∧ 0 ≤ j ∧ j ≤ 2 then (match L[i.toNat]? with
    | none => -1000000
    | some x => if j = 0 then x.1 else if j = 1 then x.2.1 else x.2.2) else -1000000
theorem stpA_n {X : XS} {a i j : Int} (h : ¬ (0 ≤ a ∧ a < (xp X).length)) : stpA X a i j = -1000000 := by
  unfold stpA
  cases e : (xp X)[a.toNat]? with
  | none => rfl
  | some L => have := (List.getElem?_eq_some_iff.mp e).1; dsimp only; rw [if_neg (by omega)]
theorem stpA_m {X : XS} {n : Nat} {L : List ST} {i j : Int} (h : (xp X)[n]? = some L) (h2 : ¬ ((0 ≤ i ∧ i < L.length) ∧ 0 ≤ j ∧ j ≤ 2)) : stpA X n i j = -1000000 := by
  unfold stpA
  rw [Int.toNat_natCast, h]
  dsimp only
  rw [if_neg (by omega)]
theorem stpA_y {X : XS} {n i : Nat} {L : List ST} {x : ST} {j : Int} (h : (xp X)[n]? = some L) (h1 : L[i]? = some x) (h2 : 0 ≤ j ∧ j ≤ 2) : stpA X n i j = if j = 0 then x.1 else if j = 1 then x.2.1 else x.2.2 := by
  have := (List.getElem?_eq_some_iff.mp h1).1
  unfold stpA
  rw [Int.toNat_natCast, h]
  dsimp only
  rw [if_pos (by omega), Int.toNat_natCast, h1]
theorem ct_part0 {l : Launch} {D : va_G} {cA ad : Nat → Nat} {d : Nat} {σ : AS} {K : Option Value → AS → Prop} {b i : Nat} {L : List ST} {x : ST} (hR : RO σ) (hb : PB b) (hP : PLC σ b L) (hx : L[i]? = some x) (hi : i < 16) (hK : K (some (.int (iI x.1))) σ) : Call l D cA ad d mX7_partOfStep [.ref b, .int (iI i), .int (iI 0)] σ K := by
  refine call_go (by decide) (Nat.le_of_ble_eq_true rfl) (show Go l D cA ad d mX7_partOfStep 0 [.ref b, .int (iI i), .int (iI 0)] [] σ K from ?_)
  refine go_iload_n dX7_partOfStep_0 rfl ?_
  refine go_look (off := 27) (tgt := 28) dX7_partOfStep_1 (by decide) (by decide) (by decide) ?_
  refine go_aload_n dX7_partOfStep_28 rfl ?_
  refine go_getR fX7_9 dX7_partOfStep_29 hb.1 (hR _ _ _ hb.2.2.2.2.1) ?_
  refine go_iload_n dX7_partOfStep_32 rfl ?_
  refine go_iald dX7_partOfStep_33 hb.2.1 (vp_iI (by omega)) ?_
  rw [cl_n _ (by omega), (hP.2 i x hx).1]
  refine go_iret rfl rfl dX7_partOfStep_34 ?_
  exact hK

theorem ct_part1 {l : Launch} {D : va_G} {cA ad : Nat → Nat} {d : Nat} {σ : AS} {K : Option Value → AS → Prop} {b i : Nat} {L : List ST} {x : ST} (hR : RO σ) (hb : PB b) (hP : PLC σ b L) (hx : L[i]? = some x) (hi : i < 16) (hK : K (some (.int (iI x.2.1))) σ) : Call l D cA ad d mX7_partOfStep [.ref b, .int (iI i), .int (iI 1)] σ K := by
  refine call_go (by decide) (Nat.le_of_ble_eq_true rfl) (show Go l D cA ad d mX7_partOfStep 0 [.ref b, .int (iI i), .int (iI 1)] [] σ K from ?_)
  refine go_iload_n dX7_partOfStep_0 rfl ?_
  refine go_look (off := 34) (tgt := 35) dX7_partOfStep_1 (by decide) (by decide) (by decide) ?_
  refine go_aload_n dX7_partOfStep_35 rfl ?_
  refine go_getR fX7_15 dX7_partOfStep_36 hb.1 (hR _ _ _ hb.2.2.2.2.2.1) ?_
  refine go_iload_n dX7_partOfStep_39 rfl ?_
  refine go_iald dX7_partOfStep_40 hb.2.2.1 (vp_iI (by omega)) ?_
  rw [cl_n _ (by omega), (hP.2 i x hx).2.1]
  refine go_iret rfl rfl dX7_partOfStep_41 ?_
  exact hK

theorem ct_part2 {l : Launch} {D : va_G} {cA ad : Nat → Nat} {d : Nat} {σ : AS} {K : Option Value → AS → Prop} {b i : Nat} {L : List ST} {x : ST} (hR : RO σ) (hb : PB b) (hP : PLC σ b L) (hx : L[i]? = some x) (hi : i < 16) (hK : K (some (.int (iI x.2.2))) σ) : Call l D cA ad d mX7_partOfStep [.ref b, .int (iI i), .int (iI 2)] σ K := by
  refine call_go (by decide) (Nat.le_of_ble_eq_true rfl) (show Go l D cA ad d mX7_partOfStep 0 [.ref b, .int (iI i), .int (iI 2)] [] σ K from ?_)
  refine go_iload_n dX7_partOfStep_0 rfl ?_
  refine go_look (off := 41) (tgt := 42) dX7_partOfStep_1 (by decide) (by decide) (by decide) ?_
  refine go_aload_n dX7_partOfStep_42 rfl ?_
  refine go_getR fX7_18 dX7_partOfStep_43 hb.1 (hR _ _ _ hb.2.2.2.2.2.2.1) ?_
  refine go_iload_n dX7_partOfStep_46 rfl ?_
  refine go_iald dX7_partOfStep_47 hb.2.2.2.1 (vp_iI (by omega)) ?_
  rw [cl_n _ (by omega), (hP.2 i x hx).2.2]
  refine go_iret rfl rfl dX7_partOfStep_48 ?_
  exact hK

theorem ct_part {l : Launch} {D : va_G} {cA ad : Nat → Nat} {d : Nat} {σ : AS} {K : Option Value → AS → Prop} {b i : Nat} {L : List ST} {x : ST} {j : Int} (hR : RO σ) (hb : PB b) (hP : PLC σ b L) (hx : L[i]? = some x) (hi : i < 16) (hj : 0 ≤ j ∧ j ≤ 2) (hK : K (some (.int (iI (if j = 0 then x.1 else if j = 1 then x.2.1 else x.2.2)))) σ) : Call l D cA ad d mX7_partOfStep [.ref b, .int (iI i), .int (iI j)] σ K := by
  rcases (show j = 0 ∨ j = 1 ∨ j = 2 by omega) with rfl | rfl | rfl
  · exact ct_part0 hR hb hP hx hi hK
  · exact ct_part1 hR hb hP hx hi hK
  · exact ct_part2 hR hb hP hx hi hK
theorem ct_X11_step {l : Launch} {D : va_G} {cA ad : Nat → Nat} {d : Nat} {σ : AS} {K : Option Value → AS → Prop} {X : XS} {a i j : Int} (hR : RO σ) (hK0 : XK X) (hC : CI σ X) (ha32 : -2147483648 ≤ a ∧ a < 2147483648) (hi32 : -2147483648 ≤ i ∧ i < 2147483648) (hj32 : -2147483648 ≤ j ∧ j < 2147483648) (hK : ∀ τ, QF σ τ → K (some (.int (iI (stpA X a i j)))) τ) : Call l D cA ad (d + 1) mX11_step [.ref 0, .int (iI a), .int (iI i), .int (iI j)] σ K := by
  refine call_go (by decide) (Nat.le_of_ble_eq_true rfl) (show Go l D cA ad (d + 1) mX11_step 0 [.ref 0, .int (iI a), .int (iI i), .int (iI j)] [] σ K from ?_)
  refine go_aload_n dX11_step_0 rfl ?_
  refine go_iload_n dX11_step_1 rfl ?_
  refine go_callV (as := [_]) wX11_220 dX11_step_2 rfl rfl rfl rfl (Nat.le_of_ble_eq_true rfl) (ct_X11_hasPlan hR hK0 hC ha32 (fun n L hn hL => ?_) (fun hx => ?_))
  · refine go_if_eq (tgt := 34) dX11_step_5 (by decide) (fun h5 => ?_) (fun h5 => ?_)
    · exact absurd h5 (by decide)
    · subst hn
      have hnl := (List.getElem?_eq_some_iff.mp hL).1
      have hp4 := hK0.p.1
      obtain ⟨hpb, hp66⟩ := PB_k n (by omega)
      have hPL := hC.2.2.2.2.2.2.2.2.1.2 n L hL
      have hLk := hK0.p.2 L (List.mem_of_getElem? hL)
      have hl16 := hLk.1
      refine go_iload_n dX11_step_8 rfl ?_
      refine go_if_lt (tgt := 34) dX11_step_9 (by decide) (fun h9 => ?_) (fun h9 => ?_)
      · rw [iI_lt0 (by omega)] at h9
        refine go_ldc lX11_226 dX11_step_34 ?_
        refine go_iret rfl rfl dX11_step_36 ?_
        rw [stpA_m hL (by omega)] at hK
        exact hK σ QF.rf
      · rw [iI_lt0 (by omega)] at h9
        refine go_iload_n dX11_step_12 rfl ?_
        refine go_aload_n dX11_step_13 rfl ?_
        refine go_getR fX11_46 dX11_step_14 rfl (hR _ _ _ rfl) ?_
        refine go_iload_n dX11_step_17 rfl ?_
        refine go_aald dX11_step_18 rfl (by decide) (vp_iI (by omega)) (by rw [cl_n _ (by omega)]; exact hR _ _ _ hp66) ?_
        refine go_getI fX11_223 dX11_step_19 hpb.1 ?_
        rw [hPL.1]
        refine go_icmp_ge (tgt := 34) dX11_step_22 (by decide) (fun h22 => ?_) (fun h22 => ?_)
        · rw [iI_le (by omega)] at h22
          refine go_ldc lX11_226 dX11_step_34 ?_
          refine go_iret rfl rfl dX11_step_36 ?_
          rw [stpA_m hL (by omega)] at hK
          exact hK σ QF.rf
        · rw [iI_le (by omega)] at h22
          refine go_iload_n dX11_step_25 rfl ?_
          refine go_if_lt (tgt := 34) dX11_step_26 (by decide) (fun h26 => ?_) (fun h26 => ?_)
          · rw [iI_lt0 (by omega)] at h26
            refine go_ldc lX11_226 dX11_step_34 ?_
            refine go_iret rfl rfl dX11_step_36 ?_
            rw [stpA_m hL (by omega)] at hK
            exact hK σ QF.rf
          · rw [iI_lt0 (by omega)] at h26
            refine go_iload_n dX11_step_29 rfl ?_
            refine go_iconst (v := iI 2) dX11_step_30 (by decide) ?_
            refine go_icmp_le (tgt := 37) dX11_step_31 (by decide) (fun h31 => ?_) (fun h31 => ?_)
            · rw [iI_le (by omega)] at h31
              obtain ⟨q, rfl⟩ : ∃ q : Nat, i = q := ⟨i.toNat, by omega⟩
              have hi16 : q < 16 := by omega
              obtain ⟨x, hx⟩ : ∃ x, L[q]? = some x := ⟨_, List.getElem?_eq_getElem (by omega)⟩
              refine go_aload_n dX11_step_37 rfl ?_
              refine go_getR fX11_46 dX11_step_38 rfl (hR _ _ _ rfl) ?_
              refine go_iload_n dX11_step_41 rfl ?_
              refine go_aald dX11_step_42 rfl (by decide) (vp_iI (by omega)) (by rw [cl_n _ (by omega)]; exact hR _ _ _ hp66) ?_
              refine go_iload_n dX11_step_43 rfl ?_
              refine go_iload_n dX11_step_44 rfl ?_
              refine go_callV (as := [_, _]) wX11_227 dX11_step_45 hpb.1 rfl rfl rfl (Nat.le_of_ble_eq_true rfl) (ct_part hR hpb hPL hx hi16 (by omega) ?_)
              refine go_iret rfl rfl dX11_step_48 ?_
              rw [stpA_y hL hx (by omega)] at hK
              exact hK σ QF.rf
            · rw [iI_le (by omega)] at h31
              refine go_ldc lX11_226 dX11_step_34 ?_
              refine go_iret rfl rfl dX11_step_36 ?_
              rw [stpA_m hL (by omega)] at hK
              exact hK σ QF.rf
  · refine go_if_eq (tgt := 34) dX11_step_5 (by decide) (fun h5 => ?_) (fun h5 => ?_)
    · refine go_ldc lX11_226 dX11_step_34 ?_
      refine go_iret rfl rfl dX11_step_36 ?_
      rw [stpA_n hx] at hK
      exact hK σ QF.rf
    · exact absurd h5 (by decide)

theorem st77 {l : Launch} {D : va_G} {cA ad : Nat → Nat} {d : Nat} {σ : AS} {K : Option Value → AS → Prop} {X : XS} {W1 : WT} {b i n : Nat} {L : List ST} {x : ST} (hR : RO σ) (hK0 : XK X) (hC : CI σ X) (hpb : PB b) (hPL : PLC σ b L) (hx : L[i]? = some x) (hi : i < 16) (hn : x.2.1 = n) (hn9 : n ≤ 9) (hK : ∀ τ, QF σ τ → WC τ 106 W1 → Go l D cA ad (d + 5) mX6_stepsThatCanBe 119 [.ref 105, .ref b, .int (iI i), .int (iI 2), .int (iI n)] [] τ K) : ∀ (r j : Nat) (w : WT) (τ : AS), r + j = n → QF σ τ → WC τ 106 w → WK (xs X) w → dy w + r ≤ 10000 → daysF (xs X) (xv X) r w = W1 → Go l D cA ad (d + 5) mX6_stepsThatCanBe 77 [.ref 105, .ref b, .int (iI i), .int (iI 2), .int (iI j)] [] τ K := by
  intro r
  induction r using Nat.strongRecOn with
  | ind r ih =>
  intro j w τ hr hq hW hw hd hres
  refine go_iload_n dX6_stepsThatCanBe_77 rfl ?_
  refine go_iconst (v := iI 2) dX6_stepsThatCanBe_78 (by decide) ?_
  refine go_icmp_ne (tgt := 119) dX6_stepsThatCanBe_79 (by decide) (fun h79 => ?_) (fun h79 => ?_)
  · exact absurd h79 (by decide)
  · refine go_iload dX6_stepsThatCanBe_82 rfl ?_
    refine go_aload_n dX6_stepsThatCanBe_84 rfl ?_
    refine go_getR fX6_84 dX6_stepsThatCanBe_85 hpb.1 (hq.RO hR _ _ _ hpb.2.2.2.2.2.1) ?_
    refine go_iload_n dX6_stepsThatCanBe_88 rfl ?_
    refine go_iald dX6_stepsThatCanBe_89 hpb.2.2.1 (vp_iI (by omega)) ?_
    rw [cl_n _ (by omega), ((PLC_q hPL hpb hq).2 i x hx).2.1, hn]
    refine go_icmp_ge (tgt := 119) dX6_stepsThatCanBe_90 (by decide) (fun h90 => ?_) (fun h90 => ?_)
    · rw [iI_le (by omega)] at h90
      obtain rfl : r = 0 := by omega
      have e1 : w = W1 := hres
      subst e1
      obtain rfl : j = n := by omega
      exact hK τ hq hW
    · rw [iI_le (by omega)] at h90
      refine go_aload_n dX6_stepsThatCanBe_93 rfl ?_
      refine go_getR fX6_26 dX6_stepsThatCanBe_94 rfl (hq.RO hR _ _ _ rfl) ?_
      refine go_aload_n dX6_stepsThatCanBe_97 rfl ?_
      refine go_getR fX6_12 dX6_stepsThatCanBe_98 rfl (hq.RO hR _ _ _ rfl) ?_
      refine go_aload_n dX6_stepsThatCanBe_101 rfl ?_
      refine go_getR fX6_22 dX6_stepsThatCanBe_102 rfl (hq.RO hR _ _ _ rfl) ?_
      refine go_getR fX6_41 dX6_stepsThatCanBe_105 rfl (hq.RO hR _ _ _ rfl) ?_
      refine go_iconst (v := iI 0) dX6_stepsThatCanBe_108 (by decide) ?_
      refine go_iald dX6_stepsThatCanBe_109 rfl (vp_iI (by decide)) ?_
      rw [cl_0, (hC.q hK0 hq).2.1.2.2.1 0 (by decide)]
      refine go_callV (as := [_, _]) wX6_46 dX6_stepsThatCanBe_110 rfl rfl rfl rfl (Nat.le_of_ble_eq_true rfl) (ct_X2_passDay (hq.RO hR) (hC.q hK0 hq).2.1 hK0.s WB_106 hW hw (by decide) hK0.L (hC.q hK0 hq).2.2.2.2.2.2.2.1 (by have := sk09 hK0; omega) (fun ρ fr hW2 => ?_))
      refine go_iincI dX6_stepsThatCanBe_113 rfl (Nat.le_of_ble_eq_true rfl) rfl ?_
      refine go_goto (tgt := 77) dX6_stepsThatCanBe_116 (by decide) ?_
      obtain ⟨r, rfl⟩ : ∃ q, r = q + 1 := ⟨r - 1, by omega⟩
      have hd1 := dayF_ok (hv := xv X) hK0.s hw (sk09 hK0).1 (by omega)
      simp only [List.set, iI_add]
      exact ih r (by omega) (j + 1) _ ρ (by omega) (hq.tr (QF.w fr)) hW2 hd1.1 (by rw [show dy (dayF (xs X) (hLw (xL X) (xh X)) (skv (xs X) 0) w) = _ from hd1.2.2]; omega) hres
theorem st13 {l : Launch} {D : va_G} {cA ad : Nat → Nat} {d : Nat} {σ : AS} {K : Option Value → AS → Prop} {X : XS} {b N : Nat} {W1 : WT} {L : List ST} (hR : RO σ) (hK0 : XK X) (hC : CI σ X) (hpb : PB b) (hPL : PLC σ b L) (hLk : LOK L) (hK : ∀ τ, QF σ τ → WC τ 106 W1 → K (some (.int (iI N))) τ) : ∀ (R : List ST) (i : Nat) (w : WT) (τ : AS) (v3 v4 : Value), L.drop i = R → QF σ τ → WC τ 106 w → WK (xs X) w → dy w ≤ 9999 → i ≤ L.length → i + (runF (xs X) (xv X) R w).1 = N → (runF (xs X) (xv X) R w).2 = W1 → Go l D cA ad (d + 5) mX6_stepsThatCanBe 13 [.ref 105, .ref b, .int (iI i), v3, v4] [] τ K := by
  have hl16 := hLk.1
  intro R
  induction R with
  | nil =>
    intro i w τ v3 v4 hR2 hq hW hw hd hi hres hres2
    have hP2 := PLC_q hPL hpb hq
    have hil := drop_nil hR2 hi
    refine go_iload_n dX6_stepsThatCanBe_13 rfl ?_
    refine go_aload_n dX6_stepsThatCanBe_14 rfl ?_
    refine go_getI fX6_76 dX6_stepsThatCanBe_15 hpb.1 ?_
    rw [hP2.1]
    refine go_icmp_ge (tgt := 125) dX6_stepsThatCanBe_18 (by decide) (fun h18 => ?_) (fun h18 => ?_)
    · refine go_aload_n dX6_stepsThatCanBe_125 rfl ?_
      refine go_getI fX6_76 dX6_stepsThatCanBe_126 hpb.1 ?_
      rw [hP2.1]
      refine go_iret rfl rfl dX6_stepsThatCanBe_129 ?_
      rw [show (L.length : Int) = ((i + (runF (xs X) (xv X) [] w).1 : Nat) : Int) by rw [show (runF (xs X) (xv X) [] w).1 = 0 from rfl]; omega, hres]
      exact hK τ hq (by have e : (runF (xs X) (xv X) [] w).2 = w := rfl; rw [← hres2, e]; exact hW)
    · exfalso
      rw [iI_le (by omega)] at h18
      omega
  | cons x R ih =>
    intro i w τ v3 v4 hR2 hq hW hw hd hi hres hres2
    have hP2 := PLC_q hPL hpb hq
    have hx := drop_cons hR2
    have hil := hx.2.2
    have hxx := hP2.2 i x hx.1
    have hxk := hLk.2 x (List.mem_of_getElem? hx.1)
    refine go_iload_n dX6_stepsThatCanBe_13 rfl ?_
    refine go_aload_n dX6_stepsThatCanBe_14 rfl ?_
    refine go_getI fX6_76 dX6_stepsThatCanBe_15 hpb.1 ?_
    rw [hP2.1]
    refine go_icmp_ge (tgt := 125) dX6_stepsThatCanBe_18 (by decide) (fun h18 => ?_) (fun h18 => ?_)
    · exfalso
      rw [iI_le (by omega)] at h18
      omega
    · refine go_aload_n dX6_stepsThatCanBe_21 rfl ?_
      refine go_getR fX6_81 dX6_stepsThatCanBe_22 hpb.1 (hq.RO hR _ _ _ hpb.2.2.2.2.1) ?_
      refine go_iload_n dX6_stepsThatCanBe_25 rfl ?_
      refine go_iald dX6_stepsThatCanBe_26 hpb.2.1 (vp_iI (by omega)) ?_
      rw [cl_n _ (by omega), hxx.1]
      refine go_istore_n dX6_stepsThatCanBe_27 (Nat.le_of_ble_eq_true rfl) rfl ?_
      refine go_aload_n dX6_stepsThatCanBe_28 rfl ?_
      refine go_iload_n dX6_stepsThatCanBe_29 rfl ?_
      refine go_aload_n dX6_stepsThatCanBe_30 rfl ?_
      refine go_getR fX6_84 dX6_stepsThatCanBe_31 hpb.1 (hq.RO hR _ _ _ hpb.2.2.2.2.2.1) ?_
      refine go_iload_n dX6_stepsThatCanBe_34 rfl ?_
      refine go_iald dX6_stepsThatCanBe_35 hpb.2.2.1 (vp_iI (by omega)) ?_
      rw [cl_n _ (by omega), hxx.2.1]
      refine go_aload_n dX6_stepsThatCanBe_36 rfl ?_
      refine go_getR fX6_87 dX6_stepsThatCanBe_37 hpb.1 (hq.RO hR _ _ _ hpb.2.2.2.2.2.2.1) ?_
      refine go_iload_n dX6_stepsThatCanBe_40 rfl ?_
      refine go_iald dX6_stepsThatCanBe_41 hpb.2.2.2.1 (vp_iI (by omega)) ?_
      rw [cl_n _ (by omega), hxx.2.2]
      refine go_aload_n dX6_stepsThatCanBe_42 rfl ?_
      refine go_getR fX6_12 dX6_stepsThatCanBe_43 rfl (hq.RO hR _ _ _ rfl) ?_
      refine go_callV (as := [_, _, _, _]) wX6_90 dX6_stepsThatCanBe_46 rfl rfl rfl rfl (Nat.le_of_ble_eq_true rfl) (ct_canBeS (hq.RO hR) (hC.q hK0 hq).2.1 hK0.s WB_106 hW hw hxk (fun hc => ?_) (fun hc => ?_))
      · refine go_if_ne (tgt := 54) dX6_stepsThatCanBe_49 (by decide) (fun h49 => ?_) (fun h49 => ?_)
        · refine go_aload_n dX6_stepsThatCanBe_54 rfl ?_
          refine go_getR fX6_12 dX6_stepsThatCanBe_55 rfl (hq.RO hR _ _ _ rfl) ?_
          refine go_iload_n dX6_stepsThatCanBe_58 rfl ?_
          refine go_aload_n dX6_stepsThatCanBe_59 rfl ?_
          refine go_getR fX6_84 dX6_stepsThatCanBe_60 hpb.1 (hq.RO hR _ _ _ hpb.2.2.2.2.2.1) ?_
          refine go_iload_n dX6_stepsThatCanBe_63 rfl ?_
          refine go_iald dX6_stepsThatCanBe_64 hpb.2.2.1 (vp_iI (by omega)) ?_
          rw [cl_n _ (by omega), hxx.2.1]
          refine go_aload_n dX6_stepsThatCanBe_65 rfl ?_
          refine go_getR fX6_87 dX6_stepsThatCanBe_66 hpb.1 (hq.RO hR _ _ _ hpb.2.2.2.2.2.2.1) ?_
          refine go_iload_n dX6_stepsThatCanBe_69 rfl ?_
          refine go_iald dX6_stepsThatCanBe_70 hpb.2.2.2.1 (vp_iI (by omega)) ?_
          rw [cl_n _ (by omega), hxx.2.2]
          refine go_callV (as := [_, _, _]) wX6_94 dX6_stepsThatCanBe_71 rfl rfl rfl rfl (Nat.le_of_ble_eq_true rfl) (ct_takeS (hq.RO hR) hK0.s WB_106 hW hw hxk hc (fun ρ fr hW2 => ?_))
          refine go_iconst (v := iI 0) dX6_stepsThatCanBe_74 (by decide) ?_
          refine go_istore dX6_stepsThatCanBe_75 (Nat.le_of_ble_eq_true rfl) rfl ?_
          have hok := stW_ok (hv := xv X) hK0.s hw hd hc
          rw [runF_y hc] at hres hres2
          have hfin : ∀ ψ j, QF σ ψ → WC ψ 106 (stW (xs X) (xv X) w x) → Go l D cA ad (d + 5) mX6_stepsThatCanBe 119 [.ref 105, .ref b, .int (iI i), .int (iI x.1), .int j] [] ψ K := by
            intro ψ j hqq hWW
            refine go_iincI dX6_stepsThatCanBe_119 rfl (Nat.le_of_ble_eq_true rfl) rfl ?_
            refine go_goto (tgt := 13) dX6_stepsThatCanBe_122 (by decide) ?_
            simp only [List.set, iI_add]
            exact ih (i + 1) _ ψ _ _ hx.2.1 hqq hWW hok.1 hok.2 (by omega) (by rw [← hres]; omega) hres2
          by_cases hk2 : x.1 = 2
          · obtain ⟨n, hn⟩ : ∃ n : Nat, x.2.1 = n := ⟨x.2.1.toNat, by have := hxk.2.2.1; omega⟩
            rw [hk2] at hfin ⊢
            simp only [List.set]
            have htk : tkW w x = w := by unfold tkW; rw [if_neg (by omega), if_neg (by omega), if_pos hk2]
            rw [htk] at hW2
            have hdn : dy w + n ≤ 10000 := by
              have h7 := hok.2
              unfold stW at h7
              rw [if_pos hk2, hn, Int.toNat_natCast, (daysF_ok (hv := xv X) hK0.s n w hw (by have := hxk.2.2.2.1; omega)).2.2] at h7
              omega
            refine st77 (W1 := stW (xs X) (xv X) w x) hR hK0 hC hpb hPL hx.1 (by omega) hn (by have := hxk.2.2.2.1; omega) (fun ψ h1 h2 => hfin ψ _ h1 h2) n 0 w ρ (by omega) (hq.tr (QF.r fr)) hW2 hw hdn ?_
            unfold stW
            rw [if_pos hk2, hn, Int.toNat_natCast]
          · have hst : stW (xs X) (xv X) w x = tkW w x := by unfold stW; rw [if_neg hk2]
            rw [hst] at hfin
            simp only [List.set]
            refine go_iload_n dX6_stepsThatCanBe_77 rfl ?_
            refine go_iconst (v := iI 2) dX6_stepsThatCanBe_78 (by decide) ?_
            refine go_icmp_ne (tgt := 119) dX6_stepsThatCanBe_79 (by decide) (fun h79 => ?_) (fun h79 => ?_)
            · exact hfin ρ _ (hq.tr (QF.r fr)) hW2
            · exfalso
              rw [iI_eq (by have := hxk.1; have := hxk.2.1; omega)] at h79
              exact hk2 h79
        · exact absurd h49 (by decide)
      · refine go_if_ne (tgt := 54) dX6_stepsThatCanBe_49 (by decide) (fun h49 => ?_) (fun h49 => ?_)
        · exact absurd h49 (by decide)
        · refine go_iload_n dX6_stepsThatCanBe_52 rfl ?_
          refine go_iret rfl rfl dX6_stepsThatCanBe_53 ?_
          rw [runF_n hc] at hres hres2
          rw [show (i : Int) = ((i + 0 : Nat) : Int) by omega, show i + 0 = N from hres]
          exact hK τ hq (by rw [← hres2]; exact hW)
theorem ct_X6_stepsThatCanBe {l : Launch} {D : va_G} {cA ad : Nat → Nat} {d : Nat} {σ : AS} {K : Option Value → AS → Prop} {X : XS} {b : Nat} {L : List ST} (hR : RO σ) (hK0 : XK X) (hC : CI σ X) (hpb : PB b) (hPL : PLC σ b L) (hLk : LOK L) (hK : ∀ τ, QF σ τ → WC τ 106 (runF (xs X) (xv X) L (xw X)).2 → K (some (.int (iI (runF (xs X) (xv X) L (xw X)).1))) τ) : Call l D cA ad (d + 5) mX6_stepsThatCanBe [.ref 105, .ref b] σ K := by
  refine call_go (by decide) (Nat.le_of_ble_eq_true rfl) (show Go l D cA ad (d + 5) mX6_stepsThatCanBe 0 [.ref 105, .ref b, .null, .null, .null] [] σ K from ?_)
  refine go_aload_n dX6_stepsThatCanBe_0 rfl ?_
  refine go_getR fX6_12 dX6_stepsThatCanBe_1 rfl (hR _ _ _ rfl) ?_
  refine go_aload_n dX6_stepsThatCanBe_4 rfl ?_
  refine go_getR fX6_30 dX6_stepsThatCanBe_5 rfl (hR _ _ _ rfl) ?_
  refine go_callV (as := [_]) wX6_33 dX6_stepsThatCanBe_8 rfl rfl rfl rfl (Nat.le_of_ble_eq_true rfl) (ct_X10_become (w := xw X) hR WB_106 WB_87 (by decide) hC.2.2.1 (fun τ fr hW => ?_))
  refine go_iconst (v := iI 0) dX6_stepsThatCanBe_11 (by decide) ?_
  refine go_istore_n dX6_stepsThatCanBe_12 (Nat.le_of_ble_eq_true rfl) rfl ?_
  simp only [List.set]
  exact st13 (N := (runF (xs X) (xv X) L (xw X)).1) (W1 := (runF (xs X) (xv X) L (xw X)).2) hR hK0 hC hpb hPL hLk hK L 0 (xw X) τ _ _ rfl (QF.r fr) hW hK0.w hK0.d (Nat.zero_le _) (Nat.zero_add _) rfl

def runA (X : XS) (a j : Int) : Int := match (xp X)[a.toNat]? with
  | none => -1000000
  | some L => if 0 ≤ a ∧ 0 < nP (xs X) ∧ 0 ≤ j ∧ j ≤ 1 then (if j = 1 then (barF (xs X) (runF (xs X) (xv X) L (xw X)).2 : Int) else if (runF (xs X) (xv X) L (xw X)).1 = L.length then -1 else ((runF (xs X) (xv X) L (xw X)).1 : Int)) else -1000000
theorem runA_n {X : XS} {a j : Int} (h : ¬ (0 ≤ a ∧ a < (xp X).length)) : runA X a j = -1000000 := by
  unfold runA
  cases e : (xp X)[a.toNat]? with
  | none => rfl
  | some L => have := (List.getElem?_eq_some_iff.mp e).1; dsimp only; rw [if_neg (by omega)]
theorem runA_m {X : XS} {n : Nat} {L : List ST} {j : Int} (h : (xp X)[n]? = some L) (h2 : ¬ (0 < nP (xs X) ∧ 0 ≤ j ∧ j ≤ 1)) : runA X n j = -1000000 := by
  unfold runA
  rw [Int.toNat_natCast, h]
  dsimp only
  rw [if_neg (by omega)]
theorem runA_y {X : XS} {n : Nat} {L : List ST} {j : Int} (h : (xp X)[n]? = some L) (h2 : 0 < nP (xs X) ∧ 0 ≤ j ∧ j ≤ 1) : runA X n j = if j = 1 then (barF (xs X) (runF (xs X) (xv X) L (xw X)).2 : Int) else if (runF (xs X) (xv X) L (xw X)).1 = L.length then -1 else ((runF (xs X) (xv X) L (xw X)).1 : Int) := by
  unfold runA
  rw [Int.toNat_natCast, h]
  dsimp only
  rw [if_pos (by omega)]
theorem ct_X11_run {l : Launch} {D : va_G} {cA ad : Nat → Nat} {d : Nat} {σ : AS} {K : Option Value → AS → Prop} {X : XS} {a j : Int} (hR : RO σ) (hK0 : XK X) (hC : CI σ X) (ha32 : -2147483648 ≤ a ∧ a < 2147483648) (hj32 : -2147483648 ≤ j ∧ j < 2147483648) (hK : ∀ τ, QF σ τ → K (some (.int (iI (runA X a j)))) τ) : Call l D cA ad (d + 6) mX11_run [.ref 0, .int (iI a), .int (iI j)] σ K := by
  refine call_go (by decide) (Nat.le_of_ble_eq_true rfl) (show Go l D cA ad (d + 6) mX11_run 0 [.ref 0, .int (iI a), .int (iI j), .null] [] σ K from ?_)
  refine go_aload_n dX11_run_0 rfl ?_
  refine go_iload_n dX11_run_1 rfl ?_
  refine go_callV (as := [_]) wX11_220 dX11_run_2 rfl rfl rfl rfl (Nat.le_of_ble_eq_true rfl) (ct_X11_hasPlan hR hK0 hC ha32 (fun n L hn hL => ?_) (fun hx => ?_))
  · refine go_if_eq (tgt := 27) dX11_run_5 (by decide) (fun h5 => ?_) (fun h5 => ?_)
    · exact absurd h5 (by decide)
    · subst hn
      have hnl := (List.getElem?_eq_some_iff.mp hL).1
      have hp4 := hK0.p.1
      obtain ⟨hpb, hp66⟩ := PB_k n (by omega)
      have hPL := hC.2.2.2.2.2.2.2.2.1.2 n L hL
      have hLk := hK0.p.2 L (List.mem_of_getElem? hL)
      have hl16 := hLk.1
      refine go_aload_n dX11_run_8 rfl ?_
      refine go_getR fX11_19 dX11_run_9 rfl (hR _ _ _ rfl) ?_
      refine go_callV (as := []) wX11_135 dX11_run_12 rfl rfl rfl rfl (Nat.le_of_ble_eq_true rfl) (ct_told2 hC.2.1 hK0.s (fun ht => ?_) (fun ht => ?_))
      · refine go_if_eq (tgt := 27) dX11_run_15 (by decide) (fun h15 => ?_) (fun h15 => ?_)
        · exact absurd h15 (by decide)
        · refine go_iload_n dX11_run_18 rfl ?_
          refine go_if_lt (tgt := 27) dX11_run_19 (by decide) (fun h19 => ?_) (fun h19 => ?_)
          · rw [iI_lt0 (by omega)] at h19
            refine go_ldc lX11_226 dX11_run_27 ?_
            refine go_iret rfl rfl dX11_run_29 ?_
            rw [runA_m hL (by omega)] at hK
            exact hK σ QF.rf
          · rw [iI_lt0 (by omega)] at h19
            refine go_iload_n dX11_run_22 rfl ?_
            refine go_iconst (v := iI 1) dX11_run_23 (by decide) ?_
            refine go_icmp_le (tgt := 30) dX11_run_24 (by decide) (fun h24 => ?_) (fun h24 => ?_)
            · rw [iI_le (by omega)] at h24
              refine go_aload_n dX11_run_30 rfl ?_
              refine go_getR fX11_94 dX11_run_31 rfl (hR _ _ _ rfl) ?_
              refine go_aload_n dX11_run_34 rfl ?_
              refine go_getR fX11_46 dX11_run_35 rfl (hR _ _ _ rfl) ?_
              refine go_iload_n dX11_run_38 rfl ?_
              refine go_aald dX11_run_39 rfl (by decide) (vp_iI (by omega)) (by rw [cl_n _ (by omega)]; exact hR _ _ _ hp66) ?_
              refine go_callV (as := [_]) wX11_230 dX11_run_40 rfl rfl rfl rfl (Nat.le_of_ble_eq_true rfl) (ct_X6_stepsThatCanBe hR hK0 hC hpb hPL hLk (fun τ hq hW => ?_))
              have hrl := (runF_ok (hv := xv X) hK0.s L (xw X) hK0.w hK0.d).1
              have hyy := runA_y (j := j) hL (by omega)
              refine go_istore_n dX11_run_43 (Nat.le_of_ble_eq_true rfl) rfl ?_
              refine go_iload_n dX11_run_44 rfl ?_
              refine go_iconst (v := iI 1) dX11_run_45 (by decide) ?_
              refine go_icmp_ne (tgt := 64) dX11_run_46 (by decide) (fun h46 => ?_) (fun h46 => ?_)
              · rw [iI_eq (by omega)] at h46
                refine go_iload_n dX11_run_64 rfl ?_
                refine go_aload_n dX11_run_65 rfl ?_
                refine go_getR fX11_46 dX11_run_66 rfl (hq.RO hR _ _ _ rfl) ?_
                refine go_iload_n dX11_run_69 rfl ?_
                refine go_aald dX11_run_70 rfl (by decide) (vp_iI (by omega)) (by rw [cl_n _ (by omega)]; exact hq.RO hR _ _ _ hp66) ?_
                refine go_getI fX11_223 dX11_run_71 hpb.1 ?_
                rw [(PLC_q hPL hpb hq).1]
                refine go_icmp_ne (tgt := 81) dX11_run_74 (by decide) (fun h74 => ?_) (fun h74 => ?_)
                · rw [iI_eq (by omega)] at h74
                  refine go_iload_n dX11_run_81 rfl ?_
                  refine go_iret rfl rfl dX11_run_82 ?_
                  rw [if_neg h46, if_neg (by omega)] at hyy
                  rw [hyy] at hK
                  exact hK τ hq
                · rw [iI_eq (by omega)] at h74
                  refine go_iconst (v := iI (-1)) dX11_run_77 (by decide) ?_
                  refine go_goto (tgt := 82) dX11_run_78 (by decide) ?_
                  refine go_iret rfl rfl dX11_run_82 ?_
                  rw [if_neg h46, if_pos (by omega)] at hyy
                  rw [hyy] at hK
                  exact hK τ hq
              · rw [iI_eq (by omega)] at h46
                refine go_aload_n dX11_run_49 rfl ?_
                refine go_getR fX11_19 dX11_run_50 rfl (hq.RO hR _ _ _ rfl) ?_
                refine go_aload_n dX11_run_53 rfl ?_
                refine go_getR fX11_94 dX11_run_54 rfl (hq.RO hR _ _ _ rfl) ?_
                refine go_getR fX11_234 dX11_run_57 rfl (hq.RO hR _ _ _ rfl) ?_
                refine go_callV (as := [_]) wX11_237 dX11_run_60 rfl rfl rfl rfl (Nat.le_of_ble_eq_true rfl) (ct_X9_bareAmong (hq.RO hR) (hC.q hK0 hq).2.1 hK0.s WB_106 hW (runF_ok hK0.s L (xw X) hK0.w hK0.d).2 ?_)
                refine go_iret rfl rfl dX11_run_63 ?_
                rw [if_pos h46] at hyy
                rw [hyy] at hK
                exact hK τ hq
            · rw [iI_le (by omega)] at h24
              refine go_ldc lX11_226 dX11_run_27 ?_
              refine go_iret rfl rfl dX11_run_29 ?_
              rw [runA_m hL (by omega)] at hK
              exact hK σ QF.rf
      · refine go_if_eq (tgt := 27) dX11_run_15 (by decide) (fun h15 => ?_) (fun h15 => ?_)
        · refine go_ldc lX11_226 dX11_run_27 ?_
          refine go_iret rfl rfl dX11_run_29 ?_
          rw [runA_m hL (by omega)] at hK
          exact hK σ QF.rf
        · exact absurd h15 (by decide)
  · refine go_if_eq (tgt := 27) dX11_run_5 (by decide) (fun h5 => ?_) (fun h5 => ?_)
    · refine go_ldc lX11_226 dX11_run_27 ?_
      refine go_iret rfl rfl dX11_run_29 ?_
      rw [runA_n hx] at hK
      exact hK σ QF.rf
    · exact absurd h5 (by decide)

