/-! feud, rests -/
theorem b_clr2 : ∀ m, m < 512 → ∀ f, f < 9 → ∀ g, g < 9 → iI (m : Nat) &&& (((iI 1 <<< (iI (f : Nat) &&& 31)) ||| (iI 1 <<< (iI (g : Nat) &&& 31))) ^^^ iI (-1)) = iI ((clrB (clrB m f) g : Nat) : Int) := by decide +kernel
theorem b_orx : ∀ o, o < 512 → ∀ x, x < 2 → ∀ f, f < 9 → iI (o : Nat) ||| (iI (x : Nat) <<< (iI (f : Nat) &&& 31)) = iI ((o ||| x * 2 ^ f : Nat) : Int) := by decide +kernel
theorem b_an2 : ∀ x, x < 2 → ∀ y, y < 2 → iI (x : Nat) &&& iI (y : Nat) = iI ((x &&& y : Nat) : Int) ∧ (x &&& y) < 2 := by decide +kernel
theorem b_c4 : ∀ c, c < 4 → iI (c : Nat) >>> (iI 1 &&& 31) = iI ((c / 2 : Nat) : Int) ∧ iI (c : Nat) &&& iI 1 = iI ((c % 2 : Nat) : Int) ∧ iI (c : Nat) ^^^ iI 2 = iI ((c ^^^ 2 : Nat) : Int) ∧ iI (c : Nat) ^^^ iI 1 = iI ((c ^^^ 1 : Nat) : Int) := by decide +kernel
theorem xr4 : ∀ c, c < 4 → (c ^^^ 2) / 2 = 1 - c / 2 ∧ (c ^^^ 2) % 2 = c % 2 ∧ (c ^^^ 1) / 2 = c / 2 ∧ (c ^^^ 1) % 2 = 1 - c % 2 ∧ (c ^^^ 2) < 4 ∧ (c ^^^ 1) < 4 := by decide +kernel
def fuO (m f g x y : Nat) : Nat := if f = g then clrB (clrB m f) g ||| (x &&& y) * 2 ^ f else clrB (clrB m f) g ||| x * 2 ^ f ||| y * 2 ^ g
theorem clr_le (m j : Nat) : clrB m j ≤ m := by
  unfold clrB
  split
  · exact Nat.sub_le _ _
  · exact Nat.le_refl _
theorem x2_lt {x f n : Nat} (hx : x < 2) (hf : f < n) : x * 2 ^ f < 2 ^ n := by
  have h1 := pw_mono hf
  have h2 : 0 < 2 ^ n := Nat.pow_pos (by decide)
  rcases (show x = 0 ∨ x = 1 by omega) with rfl | rfl
  · omega
  · omega
theorem fuO_lt {m f g x y n : Nat} (hm : m < 2 ^ n) (hf : f < n) (hg : g < n) (hx : x < 2) (hy : y < 2) : fuO m f g x y < 2 ^ n := by
  have h1 := clr_le m f
  have h2 := clr_le (clrB m f) g
  unfold fuO
  split
  · exact or_lt2 (by omega) (x2_lt (b_an2 x hx y hy).2 hf)
  · exact or_lt2 (or_lt2 (by omega) (x2_lt hx hf)) (x2_lt hy hg)
def gapA (X : XS) (a b n m : Nat) : Int := wa (aftF X n m) a - wa (aftF X n m) b
theorem gapA_bd {X : XS} (hK : XK X) {a b n m : Nat} (hn : n ≤ 9) (hm : m < 2 ^ nQ (xs X)) : -99 ≤ gapA X a b n m ∧ gapA X a b n m ≤ 99 := by
  have hw := aftF_ok hK (n := n) (by omega) hm
  have h1 := wk7 hK.s hw a
  have h2 := wk7 hK.s hw b
  unfold gapA
  omega
def isFd (s : PS) (a b f g n : Int) : Prop := (0 ≤ a ∧ a < nP s) ∧ (0 ≤ b ∧ b < nP s) ∧ a ≠ b ∧ (0 ≤ f ∧ f < nQ s) ∧ (0 ≤ g ∧ g < nQ s) ∧ 1 ≤ n ∧ n ≤ 9
def fgA (X : XS) (a b f g n x y : Nat) : Int := gapA X a b n (fuO (opn (xw X)) f g x y)
def feudA (X : XS) (a b f g n x y : Int) : Int := if ((0 ≤ a ∧ a < nP (xs X)) ∧ (0 ≤ b ∧ b < nP (xs X)) ∧ a ≠ b ∧ (0 ≤ f ∧ f < nQ (xs X)) ∧ (0 ≤ g ∧ g < nQ (xs X)) ∧ 1 ≤ n ∧ n ≤ 9) ∧ (0 ≤ x ∧ x ≤ 1) ∧ 0 ≤ y ∧ y ≤ 1 then fgA X a.toNat b.toNat f.toNat g.toNat n.toNat x.toNat y.toNat else -1000000
def rgF (G : Nat → Int) (i : Int) : Nat → Nat → Int → Int
  | 0, _, fd => if i = -1 then fd else -1
  | r + 1, c, fd => if G (c ^^^ 2) ≤ G c ∧ G c ≤ G (c ^^^ 1) then (if fd = i then 10 * ((c / 2 : Nat) : Int) + ((c % 2 : Nat) : Int) else rgF G i r (c + 1) (fd + 1)) else rgF G i r (c + 1) fd
def ggF (X : XS) (a b f g n : Nat) (c : Nat) : Int := fgA X a b f g n (c / 2) (c % 2)
def restsA (X : XS) (a b f g n i : Int) : Int := if ((0 ≤ a ∧ a < nP (xs X)) ∧ (0 ≤ b ∧ b < nP (xs X)) ∧ a ≠ b ∧ (0 ≤ f ∧ f < nQ (xs X)) ∧ (0 ≤ g ∧ g < nQ (xs X)) ∧ 1 ≤ n ∧ n ≤ 9) ∧ -1 ≤ i then rgF (ggF X a.toNat b.toNat f.toNat g.toNat n.toNat) i 4 0 0 else -1
theorem ct_X11_isFeud {l : Launch} {D : va_G} {cA ad : Nat → Nat} {d : Nat} {σ : AS} {K : Option Value → AS → Prop} {s : PS} {a b f g n : Int} (hR : RO σ) (hT : TwC σ s) (hS : TwK s) (ha32 : -2147483648 ≤ a ∧ a < 2147483648) (hb32 : -2147483648 ≤ b ∧ b < 2147483648) (hf32 : -2147483648 ≤ f ∧ f < 2147483648) (hg32 : -2147483648 ≤ g ∧ g < 2147483648) (hn32 : -2147483648 ≤ n ∧ n < 2147483648) (hK1 : ∀ a' b' f' g' n' : Nat, a = a' → b = b' → f = f' → g = g' → n = n' → a' < nP s → b' < nP s → a' ≠ b' → f' < nQ s → g' < nQ s → 1 ≤ n' → n' ≤ 9 → K (some (.int (iI 1))) σ) (hK0 : ¬ ((0 ≤ a ∧ a < nP s) ∧ (0 ≤ b ∧ b < nP s) ∧ a ≠ b ∧ (0 ≤ f ∧ f < nQ s) ∧ (0 ≤ g ∧ g < nQ s) ∧ 1 ≤ n ∧ n ≤ 9) → K (some (.int (iI 0))) σ) : Call l D cA ad (d + 2) mX11_isFeud [.ref 0, .int (iI a), .int (iI b), .int (iI f), .int (iI g), .int (iI n)] σ K := by
  refine call_go (by decide) (Nat.le_of_ble_eq_true rfl) (show Go l D cA ad (d + 2) mX11_isFeud 0 [.ref 0, .int (iI a), .int (iI b), .int (iI f), .int (iI g), .int (iI n)] [] σ K from ?_)
  refine go_aload_n dX11_isFeud_0 rfl ?_
  refine go_getR fX11_19 dX11_isFeud_1 rfl (hR _ _ _ rfl) ?_
  refine go_iload_n dX11_isFeud_4 rfl ?_
  refine go_callV (as := [_]) wX11_142 dX11_isFeud_5 rfl rfl rfl rfl (Nat.le_of_ble_eq_true rfl) (ct_hasPond2 ha32 hT hS (fun a' hae hal => ?_) (fun hx => ?_))
  · refine go_if_eq (tgt := 63) dX11_isFeud_8 (by decide) (fun h8 => ?_) (fun h8 => ?_)
    · exact absurd h8 (by decide)
    · refine go_aload_n dX11_isFeud_11 rfl ?_
      refine go_getR fX11_19 dX11_isFeud_12 rfl (hR _ _ _ rfl) ?_
      refine go_iload_n dX11_isFeud_15 rfl ?_
      refine go_callV (as := [_]) wX11_142 dX11_isFeud_16 rfl rfl rfl rfl (Nat.le_of_ble_eq_true rfl) (ct_hasPond2 hb32 hT hS (fun b' hbe hbl => ?_) (fun hx => ?_))
      · refine go_if_eq (tgt := 63) dX11_isFeud_19 (by decide) (fun h19 => ?_) (fun h19 => ?_)
        · exact absurd h19 (by decide)
        · refine go_iload_n dX11_isFeud_22 rfl ?_
          refine go_iload_n dX11_isFeud_23 rfl ?_
          refine go_icmp_eq (tgt := 63) dX11_isFeud_24 (by decide) (fun h24 => ?_) (fun h24 => ?_)
          · rw [iI_eq (by omega)] at h24
            refine go_iconst (v := iI 0) dX11_isFeud_63 (by decide) ?_
            refine go_iret rfl rfl dX11_isFeud_64 ?_
            exact hK0 (by omega)
          · rw [iI_eq (by omega)] at h24
            refine go_aload_n dX11_isFeud_27 rfl ?_
            refine go_getR fX11_19 dX11_isFeud_28 rfl (hR _ _ _ rfl) ?_
            refine go_iload_n dX11_isFeud_31 rfl ?_
            refine go_callV (as := [_]) wX11_162 dX11_isFeud_32 rfl rfl rfl rfl (Nat.le_of_ble_eq_true rfl) (ct_hasPipe2 hf32 hT hS (fun f' hfe hfl => ?_) (fun hx => ?_))
            · refine go_if_eq (tgt := 63) dX11_isFeud_35 (by decide) (fun h35 => ?_) (fun h35 => ?_)
              · exact absurd h35 (by decide)
              · refine go_aload_n dX11_isFeud_38 rfl ?_
                refine go_getR fX11_19 dX11_isFeud_39 rfl (hR _ _ _ rfl) ?_
                refine go_iload dX11_isFeud_42 rfl ?_
                refine go_callV (as := [_]) wX11_162 dX11_isFeud_44 rfl rfl rfl rfl (Nat.le_of_ble_eq_true rfl) (ct_hasPipe2 hg32 hT hS (fun g' hge hgl => ?_) (fun hx => ?_))
                · refine go_if_eq (tgt := 63) dX11_isFeud_47 (by decide) (fun h47 => ?_) (fun h47 => ?_)
                  · exact absurd h47 (by decide)
                  · refine go_aload_n dX11_isFeud_50 rfl ?_
                    refine go_iload dX11_isFeud_51 rfl ?_
                    refine go_callV (as := [_]) wX11_260 dX11_isFeud_53 rfl rfl rfl rfl (Nat.le_of_ble_eq_true rfl) (ct_X11_isPlannable hR hT hS hn32 (fun n' hne h0 h1 h2 => ?_) (fun hx => ?_))
                    · refine go_if_eq (tgt := 63) dX11_isFeud_56 (by decide) (fun h56 => ?_) (fun h56 => ?_)
                      · exact absurd h56 (by decide)
                      · refine go_iconst (v := iI 1) dX11_isFeud_59 (by decide) ?_
                        refine go_goto (tgt := 64) dX11_isFeud_60 (by decide) ?_
                        refine go_iret rfl rfl dX11_isFeud_64 ?_
                        exact hK1 _ _ _ _ _ hae hbe hfe hge hne hal hbl (by omega) hfl hgl h1 h2
                    · refine go_if_eq (tgt := 63) dX11_isFeud_56 (by decide) (fun h56 => ?_) (fun h56 => ?_)
                      · refine go_iconst (v := iI 0) dX11_isFeud_63 (by decide) ?_
                        refine go_iret rfl rfl dX11_isFeud_64 ?_
                        exact hK0 (by omega)
                      · exact absurd h56 (by decide)
                · refine go_if_eq (tgt := 63) dX11_isFeud_47 (by decide) (fun h47 => ?_) (fun h47 => ?_)
                  · refine go_iconst (v := iI 0) dX11_isFeud_63 (by decide) ?_
                    refine go_iret rfl rfl dX11_isFeud_64 ?_
                    exact hK0 (by omega)
                  · exact absurd h47 (by decide)
            · refine go_if_eq (tgt := 63) dX11_isFeud_35 (by decide) (fun h35 => ?_) (fun h35 => ?_)
              · refine go_iconst (v := iI 0) dX11_isFeud_63 (by decide) ?_
                refine go_iret rfl rfl dX11_isFeud_64 ?_
                exact hK0 (by omega)
              · exact absurd h35 (by decide)
      · refine go_if_eq (tgt := 63) dX11_isFeud_19 (by decide) (fun h19 => ?_) (fun h19 => ?_)
        · refine go_iconst (v := iI 0) dX11_isFeud_63 (by decide) ?_
          refine go_iret rfl rfl dX11_isFeud_64 ?_
          exact hK0 (by omega)
        · exact absurd h19 (by decide)
  · refine go_if_eq (tgt := 63) dX11_isFeud_8 (by decide) (fun h8 => ?_) (fun h8 => ?_)
    · refine go_iconst (v := iI 0) dX11_isFeud_63 (by decide) ?_
      refine go_iret rfl rfl dX11_isFeud_64 ?_
      exact hK0 (by omega)
    · exact absurd h8 (by decide)

theorem ct_X12_isFeud {l : Launch} {D : va_G} {cA ad : Nat → Nat} {d : Nat} {σ : AS} {K : Option Value → AS → Prop} {s : PS} {a b f g n : Int} (hR : RO σ) (hT : TwM σ s) (hS : TwK s) (ha32 : -2147483648 ≤ a ∧ a < 2147483648) (hb32 : -2147483648 ≤ b ∧ b < 2147483648) (hf32 : -2147483648 ≤ f ∧ f < 2147483648) (hg32 : -2147483648 ≤ g ∧ g < 2147483648) (hn32 : -2147483648 ≤ n ∧ n < 2147483648) (hK1 : ∀ a' b' f' g' n' : Nat, a = a' → b = b' → f = f' → g = g' → n = n' → a' < nP s → b' < nP s → a' ≠ b' → f' < nQ s → g' < nQ s → 1 ≤ n' → n' ≤ 9 → K (some (.int (iI 1))) σ) (hK0 : ¬ ((0 ≤ a ∧ a < nP s) ∧ (0 ≤ b ∧ b < nP s) ∧ a ≠ b ∧ (0 ≤ f ∧ f < nQ s) ∧ (0 ≤ g ∧ g < nQ s) ∧ 1 ≤ n ∧ n ≤ 9) → K (some (.int (iI 0))) σ) : Call l D cA ad (d + 1) mX12_isFeud [.ref 111, .int (iI a), .int (iI b), .int (iI f), .int (iI g), .int (iI n)] σ K := by
  refine call_go (by decide) (Nat.le_of_ble_eq_true rfl) (show Go l D cA ad (d + 1) mX12_isFeud 0 [.ref 111, .int (iI a), .int (iI b), .int (iI f), .int (iI g), .int (iI n)] [] σ K from ?_)
  refine go_aload_n dX12_isFeud_0 rfl ?_
  refine go_iload_n dX12_isFeud_1 rfl ?_
  refine go_callV (as := [_]) wX12_364 dX12_isFeud_2 rfl rfl rfl rfl (Nat.le_of_ble_eq_true rfl) (ct_isPond2 ha32 hT hS (fun a' hae hal => ?_) (fun hx => ?_))
  · refine go_if_eq (tgt := 55) dX12_isFeud_5 (by decide) (fun h5 => ?_) (fun h5 => ?_)
    · exact absurd h5 (by decide)
    · refine go_aload_n dX12_isFeud_8 rfl ?_
      refine go_iload_n dX12_isFeud_9 rfl ?_
      refine go_callV (as := [_]) wX12_364 dX12_isFeud_10 rfl rfl rfl rfl (Nat.le_of_ble_eq_true rfl) (ct_isPond2 hb32 hT hS (fun b' hbe hbl => ?_) (fun hx => ?_))
      · refine go_if_eq (tgt := 55) dX12_isFeud_13 (by decide) (fun h13 => ?_) (fun h13 => ?_)
        · exact absurd h13 (by decide)
        · refine go_iload_n dX12_isFeud_16 rfl ?_
          refine go_iload_n dX12_isFeud_17 rfl ?_
          refine go_icmp_eq (tgt := 55) dX12_isFeud_18 (by decide) (fun h18 => ?_) (fun h18 => ?_)
          · rw [iI_eq (by omega)] at h18
            refine go_iconst (v := iI 0) dX12_isFeud_55 (by decide) ?_
            refine go_iret rfl rfl dX12_isFeud_56 ?_
            exact hK0 (by omega)
          · rw [iI_eq (by omega)] at h18
            refine go_aload_n dX12_isFeud_21 rfl ?_
            refine go_iload_n dX12_isFeud_22 rfl ?_
            refine go_callV (as := [_]) wX12_369 dX12_isFeud_23 rfl rfl rfl rfl (Nat.le_of_ble_eq_true rfl) (ct_isPipe2 hf32 hT hS (fun f' hfe hfl => ?_) (fun hx => ?_))
            · refine go_if_eq (tgt := 55) dX12_isFeud_26 (by decide) (fun h26 => ?_) (fun h26 => ?_)
              · exact absurd h26 (by decide)
              · refine go_aload_n dX12_isFeud_29 rfl ?_
                refine go_iload dX12_isFeud_30 rfl ?_
                refine go_callV (as := [_]) wX12_369 dX12_isFeud_32 rfl rfl rfl rfl (Nat.le_of_ble_eq_true rfl) (ct_isPipe2 hg32 hT hS (fun g' hge hgl => ?_) (fun hx => ?_))
                · refine go_if_eq (tgt := 55) dX12_isFeud_35 (by decide) (fun h35 => ?_) (fun h35 => ?_)
                  · exact absurd h35 (by decide)
                  · refine go_iload dX12_isFeud_38 rfl ?_
                    refine go_i2l dX12_isFeud_40 ?_
                    rw [i2l_iI (by omega)]
                    refine go_lconst (v := 1) dX12_isFeud_41 (by decide) ?_
                    refine go_ldc2 lX12_367 dX12_isFeud_42 ?_
                    refine go_callS (as := [_, _, _]) wX12_217 dX12_isFeud_45 rfl rfl (Nat.le_of_ble_eq_true rfl) (ct_isIn2 (x := 1) (y := 9) (by decide) (by decide) (by omega) (fun hi => ?_) (fun hi => ?_))
                    · refine go_if_eq (tgt := 55) dX12_isFeud_48 (by decide) (fun h48 => ?_) (fun h48 => ?_)
                      · exact absurd h48 (by decide)
                      · refine go_iconst (v := iI 1) dX12_isFeud_51 (by decide) ?_
                        refine go_goto (tgt := 56) dX12_isFeud_52 (by decide) ?_
                        refine go_iret rfl rfl dX12_isFeud_56 ?_
                        obtain ⟨n', hne⟩ : ∃ n' : Nat, n = n' := ⟨n.toNat, by omega⟩
                        exact hK1 _ _ _ _ _ hae hbe hfe hge hne hal hbl (by omega) hfl hgl (by omega) (by omega)
                    · refine go_if_eq (tgt := 55) dX12_isFeud_48 (by decide) (fun h48 => ?_) (fun h48 => ?_)
                      · refine go_iconst (v := iI 0) dX12_isFeud_55 (by decide) ?_
                        refine go_iret rfl rfl dX12_isFeud_56 ?_
                        exact hK0 (by omega)
                      · exact absurd h48 (by decide)
                · refine go_if_eq (tgt := 55) dX12_isFeud_35 (by decide) (fun h35 => ?_) (fun h35 => ?_)
                  · refine go_iconst (v := iI 0) dX12_isFeud_55 (by decide) ?_
                    refine go_iret rfl rfl dX12_isFeud_56 ?_
                    exact hK0 (by omega)
                  · exact absurd h35 (by decide)
            · refine go_if_eq (tgt := 55) dX12_isFeud_26 (by decide) (fun h26 => ?_) (fun h26 => ?_)
              · refine go_iconst (v := iI 0) dX12_isFeud_55 (by decide) ?_
                refine go_iret rfl rfl dX12_isFeud_56 ?_
                exact hK0 (by omega)
              · exact absurd h26 (by decide)
      · refine go_if_eq (tgt := 55) dX12_isFeud_13 (by decide) (fun h13 => ?_) (fun h13 => ?_)
        · refine go_iconst (v := iI 0) dX12_isFeud_55 (by decide) ?_
          refine go_iret rfl rfl dX12_isFeud_56 ?_
          exact hK0 (by omega)
        · exact absurd h13 (by decide)
  · refine go_if_eq (tgt := 55) dX12_isFeud_5 (by decide) (fun h5 => ?_) (fun h5 => ?_)
    · refine go_iconst (v := iI 0) dX12_isFeud_55 (by decide) ?_
      refine go_iret rfl rfl dX12_isFeud_56 ?_
      exact hK0 (by omega)
    · exact absurd h5 (by decide)

theorem ct_X6_keysOfFeud {l : Launch} {D : va_G} {cA ad : Nat → Nat} {d : Nat} {σ : AS} {K : Option Value → AS → Prop} {w : WT} {f g x y : Nat} (hR : RO σ) (hW : WC σ 87 w) (hm : opn w < 512) (hf : f < 9) (hg : g < 9) (hx : x < 2) (hy : y < 2) (hK : K (some (.int (iI (fuO (opn w) f g x y : Nat)))) σ) : Call l D cA ad d mX6_keysOfFeud [.ref 105, .int (iI f), .int (iI g), .int (iI x), .int (iI y)] σ K := by
  have h1 := clr_le (opn w) f
  have h2 := clr_le (clrB (opn w) f) g
  have hlt : clrB (clrB (opn w) f) g ||| x * 2 ^ f < 512 := or_lt2 (n := 9) (by omega) (x2_lt hx hf)
  refine call_go (by decide) (Nat.le_of_ble_eq_true rfl) (show Go l D cA ad d mX6_keysOfFeud 0 [.ref 105, .int (iI f), .int (iI g), .int (iI x), .int (iI y), .null] [] σ K from ?_)
  refine go_aload_n dX6_keysOfFeud_0 rfl ?_
  refine go_getR fX6_30 dX6_keysOfFeud_1 rfl (hR _ _ _ rfl) ?_
  refine go_getI fX6_37 dX6_keysOfFeud_4 rfl ?_
  rw [hW.2.1]
  refine go_iconst (v := iI 1) dX6_keysOfFeud_7 (by decide) ?_
  refine go_iload_n dX6_keysOfFeud_8 rfl ?_
  refine go_ishl dX6_keysOfFeud_9 ?_
  refine go_iconst (v := iI 1) dX6_keysOfFeud_10 (by decide) ?_
  refine go_iload_n dX6_keysOfFeud_11 rfl ?_
  refine go_ishl dX6_keysOfFeud_12 ?_
  refine go_ior dX6_keysOfFeud_13 ?_
  refine go_iconst (v := iI (-1)) dX6_keysOfFeud_14 (by decide) ?_
  refine go_ixor dX6_keysOfFeud_15 ?_
  refine go_iand dX6_keysOfFeud_16 ?_
  rw [b_clr2 _ hm f hf g hg]
  refine go_istore dX6_keysOfFeud_17 (Nat.le_of_ble_eq_true rfl) rfl ?_
  refine go_iload_n dX6_keysOfFeud_19 rfl ?_
  refine go_iload_n dX6_keysOfFeud_20 rfl ?_
  refine go_icmp_ne (tgt := 34) dX6_keysOfFeud_21 (by decide) (fun h21 => ?_) (fun h21 => ?_)
  · rw [iI_eq (by omega)] at h21
    refine go_iload dX6_keysOfFeud_34 rfl ?_
    refine go_iload_n dX6_keysOfFeud_36 rfl ?_
    refine go_iload_n dX6_keysOfFeud_37 rfl ?_
    refine go_ishl dX6_keysOfFeud_38 ?_
    refine go_ior dX6_keysOfFeud_39 ?_
    rw [b_orx _ (by omega) _ hx f hf]
    refine go_iload dX6_keysOfFeud_40 rfl ?_
    refine go_iload_n dX6_keysOfFeud_42 rfl ?_
    refine go_ishl dX6_keysOfFeud_43 ?_
    refine go_ior dX6_keysOfFeud_44 ?_
    rw [b_orx _ hlt _ hy g hg]
    refine go_iret rfl rfl dX6_keysOfFeud_45 ?_
    have e : fuO (opn w) f g x y = clrB (clrB (opn w) f) g ||| x * 2 ^ f ||| y * 2 ^ g := if_neg (by omega)
    rw [e] at hK
    exact hK
  · rw [iI_eq (by omega)] at h21
    refine go_iload dX6_keysOfFeud_24 rfl ?_
    refine go_iload_n dX6_keysOfFeud_26 rfl ?_
    refine go_iload dX6_keysOfFeud_27 rfl ?_
    refine go_iand dX6_keysOfFeud_29 ?_
    rw [(b_an2 x hx y hy).1]
    refine go_iload_n dX6_keysOfFeud_30 rfl ?_
    refine go_ishl dX6_keysOfFeud_31 ?_
    refine go_ior dX6_keysOfFeud_32 ?_
    rw [b_orx _ (by omega) _ (b_an2 x hx y hy).2 f hf]
    refine go_iret rfl rfl dX6_keysOfFeud_33 ?_
    have e : fuO (opn w) f g x y = clrB (clrB (opn w) f) g ||| (x &&& y) * 2 ^ f := if_pos (by omega)
    rw [e] at hK
    exact hK

def QG (σ τ : AS) : Prop := QF σ τ ∧ τ.1 110 = σ.1 110
theorem QG.rf {σ : AS} : QG σ σ := ⟨QF.rf, rfl⟩
theorem QG.tr {σ τ ρ : AS} (h : QG σ τ) (g : QG τ ρ) : QG σ ρ := ⟨h.1.tr g.1, g.2.trans h.2⟩
theorem QG.RO {σ τ : AS} (h : QG σ τ) (hR : RO σ) : RO τ := h.1.RO hR
theorem QG.w {σ τ : AS} (h : FrW 106 σ τ) : QG σ τ := ⟨QF.w h, h.lo (by omega) (by omega)⟩
theorem QG.r {σ τ : AS} (h : Fr 106 109 σ τ) : QG σ τ := ⟨QF.r h, h.2 110 (by omega)⟩
theorem QG_s106 {σ τ : AS} {f : Nat → Int32} (h : QG σ τ) : QG σ (sI τ 106 f) := ⟨QF_s106 h.1, by rw [sI_ne _ _ _ _ (by decide)]; exact h.2⟩
theorem ag21 {l : Launch} {D : va_G} {cA ad : Nat → Nat} {d : Nat} {σ : AS} {K : Option Value → AS → Prop} {X : XS} {W1 : WT} {n : Nat} {m : Int32} (hR : RO σ) (hK0 : XK X) (hC : CI σ X) (hn : n ≤ 1000) (hK : ∀ τ, QG σ τ → WC τ 106 W1 → K (some (.ref 106)) τ) : ∀ (r i : Nat) (w : WT) (τ : AS), r + i = n → QG σ τ → WC τ 106 w → WK (xs X) w → dy w + r ≤ 20000 → daysF (xs X) (xv X) r w = W1 → Go l D cA ad (d + 5) mX6_after 21 [.ref 105, .int (iI n), .int m, .int (iI i)] [] τ K := by
  intro r
  induction r with
  | zero =>
    intro i w τ hr hq hW hw hd hres
    refine go_iload_n dX6_after_21 rfl ?_
    refine go_iload_n dX6_after_22 rfl ?_
    refine go_icmp_ge (tgt := 52) dX6_after_23 (by decide) (fun h23 => ?_) (fun h23 => ?_)
    · refine go_aload_n dX6_after_52 rfl ?_
      refine go_getR fX6_12 dX6_after_53 rfl (hq.RO hR _ _ _ rfl) ?_
      refine go_aret rfl dX6_after_56 ?_
      have e : w = W1 := hres
      subst e
      exact hK τ hq hW
    · exfalso
      rw [iI_le (by omega)] at h23
      omega
  | succ r ih =>
    intro i w τ hr hq hW hw hd hres
    refine go_iload_n dX6_after_21 rfl ?_
    refine go_iload_n dX6_after_22 rfl ?_
    refine go_icmp_ge (tgt := 52) dX6_after_23 (by decide) (fun h23 => ?_) (fun h23 => ?_)
    · exfalso
      rw [iI_le (by omega)] at h23
      omega
    · refine go_aload_n dX6_after_26 rfl ?_
      refine go_getR fX6_26 dX6_after_27 rfl (hq.RO hR _ _ _ rfl) ?_
      refine go_aload_n dX6_after_30 rfl ?_
      refine go_getR fX6_12 dX6_after_31 rfl (hq.RO hR _ _ _ rfl) ?_
      refine go_aload_n dX6_after_34 rfl ?_
      refine go_getR fX6_22 dX6_after_35 rfl (hq.RO hR _ _ _ rfl) ?_
      refine go_getR fX6_41 dX6_after_38 rfl (hq.RO hR _ _ _ rfl) ?_
      refine go_iconst (v := iI 0) dX6_after_41 (by decide) ?_
      refine go_iald dX6_after_42 rfl (vp_iI (by decide)) ?_
      rw [cl_0, (hC.q hK0 hq.1).2.1.2.2.1 0 (by decide)]
      refine go_callV (as := [_, _]) wX6_46 dX6_after_43 rfl rfl rfl rfl (Nat.le_of_ble_eq_true rfl) (ct_X2_passDay (hq.RO hR) (hC.q hK0 hq.1).2.1 hK0.s WB_106 hW hw (by decide) hK0.L (hC.q hK0 hq.1).2.2.2.2.2.2.2.1 (by have := hK0.s.2.2.1 0 (by decide); omega) (fun ρ fr hW2 => ?_))
      refine go_iincI dX6_after_46 rfl (Nat.le_of_ble_eq_true rfl) rfl ?_
      refine go_goto (tgt := 21) dX6_after_49 (by decide) ?_
      simp only [List.set, iI_add]
      exact ih (i + 1) _ ρ (by omega) (hq.tr (QG.w fr)) hW2 (dayF_ok (hv := hLw (xL X) (xh X)) hK0.s hw (hK0.s.2.2.1 0 (by decide)).1 (by omega)).1 (by rw [(dayF_ok (hv := hLw (xL X) (xh X)) hK0.s hw (hK0.s.2.2.1 0 (by decide)).1 (by omega)).2.2]; omega) hres
theorem ct_afterG {l : Launch} {D : va_G} {cA ad : Nat → Nat} {d : Nat} {σ : AS} {K : Option Value → AS → Prop} {X : XS} {n m : Nat} (hR : RO σ) (hK0 : XK X) (hC : CI σ X) (hn : n ≤ 1000) (hm : m < 2 ^ nQ (xs X)) (hK : ∀ τ, QG σ τ → WC τ 106 (aftF X n m) → K (some (.ref 106)) τ) : Call l D cA ad (d + 5) mX6_after [.ref 105, .int (iI n), .int (iI m)] σ K := by
  refine call_go (by decide) (Nat.le_of_ble_eq_true rfl) (show Go l D cA ad (d + 5) mX6_after 0 [.ref 105, .int (iI n), .int (iI m), .null] [] σ K from ?_)
  refine go_aload_n dX6_after_0 rfl ?_
  refine go_getR fX6_12 dX6_after_1 rfl (hR _ _ _ rfl) ?_
  refine go_aload_n dX6_after_4 rfl ?_
  refine go_getR fX6_30 dX6_after_5 rfl (hR _ _ _ rfl) ?_
  refine go_callV (as := [_]) wX6_33 dX6_after_8 rfl rfl rfl rfl (Nat.le_of_ble_eq_true rfl) (ct_X10_become (w := xw X) hR WB_106 WB_87 (by decide) hC.2.2.1 (fun τ fr hW => ?_))
  refine go_aload_n dX6_after_11 rfl ?_
  refine go_getR fX6_12 dX6_after_12 rfl (fr.RO hR _ _ _ rfl) ?_
  refine go_iload_n dX6_after_15 rfl ?_
  refine go_putI fX6_37 rfl dX6_after_16 rfl rfl rfl ?_
  refine go_iconst (v := iI 0) dX6_after_19 (by decide) ?_
  refine go_istore_n dX6_after_20 (Nat.le_of_ble_eq_true rfl) rfl ?_
  simp only [List.set]
  exact ag21 hR hK0 hC hn hK n 0 (setO (xw X) m) _ (by omega) (QG_s106 (QG.r fr)) (WC_o hW) (setO_ok hK0.w hm) (by have := hK0.d; show dy (xw X) + n ≤ 20000; omega) rfl

theorem ct_X6_gapAfter {l : Launch} {D : va_G} {cA ad : Nat → Nat} {d : Nat} {σ : AS} {K : Option Value → AS → Prop} {X : XS} {a b n m : Nat} (hR : RO σ) (hK0 : XK X) (hC : CI σ X) (ha : a < 7) (hb : b < 7) (hn : n ≤ 9) (hm : m < 2 ^ nQ (xs X)) (hK : ∀ τ, QG σ τ → K (some (.int (iI (gapA X a b n m)))) τ) : Call l D cA ad (d + 6) mX6_gapAfter [.ref 105, .int (iI a), .int (iI b), .int (iI n), .int (iI m)] σ K := by
  refine call_go (by decide) (Nat.le_of_ble_eq_true rfl) (show Go l D cA ad (d + 6) mX6_gapAfter 0 [.ref 105, .int (iI a), .int (iI b), .int (iI n), .int (iI m), .null] [] σ K from ?_)
  refine go_aload_n dX6_gapAfter_0 rfl ?_
  refine go_iload_n dX6_gapAfter_1 rfl ?_
  refine go_iload dX6_gapAfter_2 rfl ?_
  refine go_callV (as := [_, _]) wX6_115 dX6_gapAfter_4 rfl rfl rfl rfl (Nat.le_of_ble_eq_true rfl) (ct_afterG hR hK0 hC (by omega) hm (fun τ hq hW => ?_))
  refine go_astore dX6_gapAfter_7 (Nat.le_of_ble_eq_true rfl) rfl ?_
  refine go_aload dX6_gapAfter_9 rfl ?_
  refine go_getR fX6_73 dX6_gapAfter_11 rfl (hq.RO hR _ _ _ rfl) ?_
  refine go_iload_n dX6_gapAfter_14 rfl ?_
  refine go_iald dX6_gapAfter_15 rfl (vp_iI (by omega)) ?_
  rw [cl_n _ (by omega), (hW.1 a (by omega)).1]
  refine go_aload dX6_gapAfter_16 rfl ?_
  refine go_getR fX6_73 dX6_gapAfter_18 rfl (hq.RO hR _ _ _ rfl) ?_
  refine go_iload_n dX6_gapAfter_21 rfl ?_
  refine go_iald dX6_gapAfter_22 rfl (vp_iI (by omega)) ?_
  rw [cl_n _ (by omega), (hW.1 b (by omega)).1]
  refine go_isub dX6_gapAfter_23 ?_
  rw [iI_sub]
  refine go_iret rfl rfl dX6_gapAfter_24 ?_
  exact hK τ hq

theorem ct_X11_feud {l : Launch} {D : va_G} {cA ad : Nat → Nat} {d : Nat} {σ : AS} {K : Option Value → AS → Prop} {X : XS} {a b f g n x y : Int} (hR : RO σ) (hK0 : XK X) (hC : CI σ X) (ha32 : -2147483648 ≤ a ∧ a < 2147483648) (hb32 : -2147483648 ≤ b ∧ b < 2147483648) (hf32 : -2147483648 ≤ f ∧ f < 2147483648) (hg32 : -2147483648 ≤ g ∧ g < 2147483648) (hn32 : -2147483648 ≤ n ∧ n < 2147483648) (hx32 : -2147483648 ≤ x ∧ x < 2147483648) (hy32 : -2147483648 ≤ y ∧ y < 2147483648) (hK : ∀ τ, QF σ τ → K (some (.int (iI (feudA X a b f g n x y)))) τ) : Call l D cA ad (d + 7) mX11_feud [.ref 0, .int (iI a), .int (iI b), .int (iI f), .int (iI g), .int (iI n), .int (iI x), .int (iI y)] σ K := by
  have hP7 := hK0.s.1
  have hQ9 := hK0.s.2.1
  refine call_go (by decide) (Nat.le_of_ble_eq_true rfl) (show Go l D cA ad (d + 7) mX11_feud 0 [.ref 0, .int (iI a), .int (iI b), .int (iI f), .int (iI g), .int (iI n), .int (iI x), .int (iI y)] [] σ K from ?_)
  refine go_aload_n dX11_feud_0 rfl ?_
  refine go_iload_n dX11_feud_1 rfl ?_
  refine go_iload_n dX11_feud_2 rfl ?_
  refine go_iload_n dX11_feud_3 rfl ?_
  refine go_iload dX11_feud_4 rfl ?_
  refine go_iload dX11_feud_6 rfl ?_
  refine go_callV (as := [_, _, _, _, _]) wX11_306 dX11_feud_8 rfl rfl rfl rfl (Nat.le_of_ble_eq_true rfl) (ct_X11_isFeud hR hC.2.1 hK0.s ha32 hb32 hf32 hg32 hn32 (fun a' b' f' g' n' hae hbe hfe hge hne hal hbl hab hfl hgl h1 h2 => ?_) (fun hxx => ?_))
  · refine go_if_eq (tgt := 36) dX11_feud_11 (by decide) (fun h11 => ?_) (fun h11 => ?_)
    · exact absurd h11 (by decide)
    · refine go_iload dX11_feud_14 rfl ?_
      refine go_if_lt (tgt := 36) dX11_feud_16 (by decide) (fun h16 => ?_) (fun h16 => ?_)
      · rw [iI_lt0 (by omega)] at h16
        refine go_ldc lX11_226 dX11_feud_36 ?_
        refine go_iret rfl rfl dX11_feud_38 ?_
        have e : feudA X a b f g n x y = -1000000 := by unfold feudA; rw [if_neg (by omega)]
        have h9 := hK σ QF.rf
        rw [e] at h9
        exact h9
      · rw [iI_lt0 (by omega)] at h16
        refine go_iload dX11_feud_19 rfl ?_
        refine go_iconst (v := iI 1) dX11_feud_21 (by decide) ?_
        refine go_icmp_gt (tgt := 36) dX11_feud_22 (by decide) (fun h22 => ?_) (fun h22 => ?_)
        · rw [iI_lt (by omega)] at h22
          refine go_ldc lX11_226 dX11_feud_36 ?_
          refine go_iret rfl rfl dX11_feud_38 ?_
          have e : feudA X a b f g n x y = -1000000 := by unfold feudA; rw [if_neg (by omega)]
          have h9 := hK σ QF.rf
          rw [e] at h9
          exact h9
        · rw [iI_lt (by omega)] at h22
          refine go_iload dX11_feud_25 rfl ?_
          refine go_if_lt (tgt := 36) dX11_feud_27 (by decide) (fun h27 => ?_) (fun h27 => ?_)
          · rw [iI_lt0 (by omega)] at h27
            refine go_ldc lX11_226 dX11_feud_36 ?_
            refine go_iret rfl rfl dX11_feud_38 ?_
            have e : feudA X a b f g n x y = -1000000 := by unfold feudA; rw [if_neg (by omega)]
            have h9 := hK σ QF.rf
            rw [e] at h9
            exact h9
          · rw [iI_lt0 (by omega)] at h27
            refine go_iload dX11_feud_30 rfl ?_
            refine go_iconst (v := iI 1) dX11_feud_32 (by decide) ?_
            refine go_icmp_le (tgt := 39) dX11_feud_33 (by decide) (fun h33 => ?_) (fun h33 => ?_)
            · rw [iI_le (by omega)] at h33
              obtain ⟨x', hxe⟩ : ∃ x' : Nat, x = x' := ⟨x.toNat, by omega⟩
              obtain ⟨y', hye⟩ : ∃ y' : Nat, y = y' := ⟨y.toNat, by omega⟩
              subst hae hbe hfe hge hne hxe hye
              refine go_aload_n dX11_feud_39 rfl ?_
              refine go_getR fX11_94 dX11_feud_40 rfl (hR _ _ _ rfl) ?_
              refine go_iload_n dX11_feud_43 rfl ?_
              refine go_iload_n dX11_feud_44 rfl ?_
              refine go_iload dX11_feud_45 rfl ?_
              refine go_aload_n dX11_feud_47 rfl ?_
              refine go_getR fX11_94 dX11_feud_48 rfl (hR _ _ _ rfl) ?_
              refine go_iload_n dX11_feud_51 rfl ?_
              refine go_iload dX11_feud_52 rfl ?_
              refine go_iload dX11_feud_54 rfl ?_
              refine go_iload dX11_feud_56 rfl ?_
              refine go_callV (as := [_, _, _, _]) wX11_310 dX11_feud_58 rfl rfl rfl rfl (Nat.le_of_ble_eq_true rfl) (ct_X6_keysOfFeud hR hC.2.2.1 (pw512 hK0.s hK0.w) (by omega) (by omega) (by omega) (by omega) ?_)
              refine go_callV (as := [_, _, _, _]) wX11_314 dX11_feud_61 rfl rfl rfl rfl (Nat.le_of_ble_eq_true rfl) (ct_X6_gapAfter hR hK0 hC (by omega) (by omega) (by omega) (fuO_lt hK0.w.2.2.1 hfl hgl (by omega) (by omega)) (fun τ hq => ?_))
              refine go_iret rfl rfl dX11_feud_64 ?_
              have e : feudA X a' b' f' g' n' x' y' = fgA X a' b' f' g' n' x' y' := by unfold feudA; rw [if_pos (by omega)]; simp only [Int.toNat_natCast]
              have h9 := hK τ hq.1
              rw [e] at h9
              exact h9
            · rw [iI_le (by omega)] at h33
              refine go_ldc lX11_226 dX11_feud_36 ?_
              refine go_iret rfl rfl dX11_feud_38 ?_
              have e : feudA X a b f g n x y = -1000000 := by unfold feudA; rw [if_neg (by omega)]
              have h9 := hK σ QF.rf
              rw [e] at h9
              exact h9
  · refine go_if_eq (tgt := 36) dX11_feud_11 (by decide) (fun h11 => ?_) (fun h11 => ?_)
    · refine go_ldc lX11_226 dX11_feud_36 ?_
      refine go_iret rfl rfl dX11_feud_38 ?_
      have e : feudA X a b f g n x y = -1000000 := by unfold feudA; rw [if_neg (by omega)]
      have h9 := hK σ QF.rf
      rw [e] at h9
      exact h9
    · exact absurd h11 (by decide)

theorem ct_X12_feudOf {l : Launch} {D : va_G} {cA ad : Nat → Nat} {d : Nat} {σ : AS} {K : Option Value → AS → Prop} {X : XS} {a b f g n x y : Nat} (hR : RO σ) (hK0 : XK X) (hC : MI σ X) (ha : a < 7) (hb : b < 7) (hf1 : f < nQ (xs X)) (hg1 : g < nQ (xs X)) (hn : n ≤ 9) (hx : x < 2) (hy : y < 2) (hK : ∀ τ, DF (xL X) σ τ → K (some (.int (iI (fgA X a b f g n x y)))) τ) : Call l D cA ad (d + 37) mX12_feudOf [.ref 111, .int (iI a), .int (iI b), .int (iI f), .int (iI g), .int (iI n), .int (iI x), .int (iI y)] σ K := by
  have hQ9 := hK0.s.2.1
  have hf : f < 9 := by omega
  have hg : g < 9 := by omega
  have hm := pw512 hK0.s hK0.w
  have h1 := clr_le (opn (xw X)) f
  have h2 := clr_le (clrB (opn (xw X)) f) g
  have hlt : clrB (clrB (opn (xw X)) f) g ||| x * 2 ^ f < 512 := or_lt2 (n := 9) (by omega) (x2_lt hx hf)
  have hlt2 := fuO_lt (f := f) (g := g) (x := x) (y := y) hK0.w.2.2.1 hf1 hg1 hx hy
  refine call_go (by decide) (Nat.le_of_ble_eq_true rfl) (show Go l D cA ad (d + 37) mX12_feudOf 0 [.ref 111, .int (iI a), .int (iI b), .int (iI f), .int (iI g), .int (iI n), .int (iI x), .int (iI y), .null] [] σ K from ?_)
  refine go_aload_n dX12_feudOf_0 rfl ?_
  refine go_getR fX12_61 dX12_feudOf_1 rfl (hR _ _ _ rfl) ?_
  refine go_bipush (v := iI 21) dX12_feudOf_4 (by decide) ?_
  refine go_iald dX12_feudOf_6 rfl (vp_iI (by decide)) ?_
  rw [show (iI 21).toNatClampNeg = 21 by decide, hC.2.2.1.1.2.1]
  refine go_iconst (v := iI 1) dX12_feudOf_7 (by decide) ?_
  refine go_iload_n dX12_feudOf_8 rfl ?_
  refine go_ishl dX12_feudOf_9 ?_
  refine go_iconst (v := iI (-1)) dX12_feudOf_10 (by decide) ?_
  refine go_ixor dX12_feudOf_11 ?_
  refine go_iand dX12_feudOf_12 ?_
  rw [b_clr _ hm f hf]
  refine go_iconst (v := iI 1) dX12_feudOf_13 (by decide) ?_
  refine go_iload dX12_feudOf_14 rfl ?_
  refine go_ishl dX12_feudOf_16 ?_
  refine go_iconst (v := iI (-1)) dX12_feudOf_17 (by decide) ?_
  refine go_ixor dX12_feudOf_18 ?_
  refine go_iand dX12_feudOf_19 ?_
  rw [b_clr _ (by omega) g hg]
  refine go_istore dX12_feudOf_20 (Nat.le_of_ble_eq_true rfl) rfl ?_
  refine go_iload_n dX12_feudOf_22 rfl ?_
  refine go_iload dX12_feudOf_23 rfl ?_
  refine go_icmp_ne (tgt := 43) dX12_feudOf_25 (by decide) (fun h25 => ?_) (fun h25 => ?_)
  · rw [iI_eq (by omega)] at h25
    refine go_iload dX12_feudOf_43 rfl ?_
    refine go_iload dX12_feudOf_45 rfl ?_
    refine go_iload_n dX12_feudOf_47 rfl ?_
    refine go_ishl dX12_feudOf_48 ?_
    refine go_iload dX12_feudOf_49 rfl ?_
    refine go_iload dX12_feudOf_51 rfl ?_
    refine go_ishl dX12_feudOf_53 ?_
    refine go_ior dX12_feudOf_54 ?_
    refine go_ior dX12_feudOf_55 ?_
    refine go_istore dX12_feudOf_56 (Nat.le_of_ble_eq_true rfl) rfl ?_
    simp only [List.set]
    rw [← Int32.or_assoc, b_orx _ (by omega) _ hx f hf, b_orx _ hlt _ hy g hg, show clrB (clrB (opn (xw X)) f) g ||| x * 2 ^ f ||| y * 2 ^ g = fuO (opn (xw X)) f g x y from (if_neg (by omega)).symm]
    refine go_aload_n dX12_feudOf_58 rfl ?_
    refine go_iload dX12_feudOf_59 rfl ?_
    refine go_iload dX12_feudOf_61 rfl ?_
    refine go_callV (as := [_, _]) wX12_425 dX12_feudOf_63 rfl rfl rfl rfl (Nat.le_of_ble_eq_true rfl) (ct_X12_lay hR hK0 hC (by omega) hlt2 (fun τ hq hW => ?_))
    refine go_aload_n dX12_feudOf_66 rfl ?_
    refine go_getR fX12_64 dX12_feudOf_67 rfl (hq.RO hR _ _ _ rfl) ?_
    refine go_iload_n dX12_feudOf_70 rfl ?_
    refine go_callS (as := [_, _]) wX12_312 dX12_feudOf_71 rfl rfl (Nat.le_of_ble_eq_true rfl) (ct_X12_water rfl hW (by omega) ?_)
    refine go_aload_n dX12_feudOf_74 rfl ?_
    refine go_getR fX12_64 dX12_feudOf_75 rfl (hq.RO hR _ _ _ rfl) ?_
    refine go_iload_n dX12_feudOf_78 rfl ?_
    refine go_callS (as := [_, _]) wX12_312 dX12_feudOf_79 rfl rfl (Nat.le_of_ble_eq_true rfl) (ct_X12_water rfl hW (by omega) ?_)
    refine go_isub dX12_feudOf_82 ?_
    rw [iI_sub]
    refine go_iret rfl rfl dX12_feudOf_83 ?_
    exact hK τ hq
  · rw [iI_eq (by omega)] at h25
    refine go_iload dX12_feudOf_28 rfl ?_
    refine go_iload dX12_feudOf_30 rfl ?_
    refine go_iload dX12_feudOf_32 rfl ?_
    refine go_iand dX12_feudOf_34 ?_
    rw [(b_an2 x hx y hy).1]
    refine go_iload_n dX12_feudOf_35 rfl ?_
    refine go_ishl dX12_feudOf_36 ?_
    refine go_ior dX12_feudOf_37 ?_
    rw [b_orx _ (by omega) _ (b_an2 x hx y hy).2 f hf]
    refine go_istore dX12_feudOf_38 (Nat.le_of_ble_eq_true rfl) rfl ?_
    refine go_goto (tgt := 58) dX12_feudOf_40 (by decide) ?_
    simp only [List.set]
    rw [show clrB (clrB (opn (xw X)) f) g ||| (x &&& y) * 2 ^ f = fuO (opn (xw X)) f g x y from (if_pos (by omega)).symm]
    refine go_aload_n dX12_feudOf_58 rfl ?_
    refine go_iload dX12_feudOf_59 rfl ?_
    refine go_iload dX12_feudOf_61 rfl ?_
    refine go_callV (as := [_, _]) wX12_425 dX12_feudOf_63 rfl rfl rfl rfl (Nat.le_of_ble_eq_true rfl) (ct_X12_lay hR hK0 hC (by omega) hlt2 (fun τ hq hW => ?_))
    refine go_aload_n dX12_feudOf_66 rfl ?_
    refine go_getR fX12_64 dX12_feudOf_67 rfl (hq.RO hR _ _ _ rfl) ?_
    refine go_iload_n dX12_feudOf_70 rfl ?_
    refine go_callS (as := [_, _]) wX12_312 dX12_feudOf_71 rfl rfl (Nat.le_of_ble_eq_true rfl) (ct_X12_water rfl hW (by omega) ?_)
    refine go_aload_n dX12_feudOf_74 rfl ?_
    refine go_getR fX12_64 dX12_feudOf_75 rfl (hq.RO hR _ _ _ rfl) ?_
    refine go_iload_n dX12_feudOf_78 rfl ?_
    refine go_callS (as := [_, _]) wX12_312 dX12_feudOf_79 rfl rfl (Nat.le_of_ble_eq_true rfl) (ct_X12_water rfl hW (by omega) ?_)
    refine go_isub dX12_feudOf_82 ?_
    rw [iI_sub]
    refine go_iret rfl rfl dX12_feudOf_83 ?_
    exact hK τ hq

theorem ct_X12_feud {l : Launch} {D : va_G} {cA ad : Nat → Nat} {d : Nat} {σ : AS} {K : Option Value → AS → Prop} {X : XS} {a b f g n x y : Int} (hR : RO σ) (hK0 : XK X) (hC : MI σ X) (ha32 : -2147483648 ≤ a ∧ a < 2147483648) (hb32 : -2147483648 ≤ b ∧ b < 2147483648) (hf32 : -2147483648 ≤ f ∧ f < 2147483648) (hg32 : -2147483648 ≤ g ∧ g < 2147483648) (hn32 : -2147483648 ≤ n ∧ n < 2147483648) (hx32 : -2147483648 ≤ x ∧ x < 2147483648) (hy32 : -2147483648 ≤ y ∧ y < 2147483648) (hK : ∀ τ, DF (xL X) σ τ → K (some (.int (iI (feudA X a b f g n x y)))) τ) : Call l D cA ad (d + 38) mX12_feud [.ref 111, .int (iI a), .int (iI b), .int (iI f), .int (iI g), .int (iI n), .int (iI x), .int (iI y)] σ K := by
  have hP7 := hK0.s.1
  have hQ9 := hK0.s.2.1
  refine call_go (by decide) (Nat.le_of_ble_eq_true rfl) (show Go l D cA ad (d + 38) mX12_feud 0 [.ref 111, .int (iI a), .int (iI b), .int (iI f), .int (iI g), .int (iI n), .int (iI x), .int (iI y)] [] σ K from ?_)
  refine go_aload_n dX12_feud_0 rfl ?_
  refine go_iconst (v := iI 0) dX12_feud_1 (by decide) ?_
  refine go_putI fX12_96 rfl dX12_feud_2 rfl rfl rfl ?_
  have hq : DF (xL X) σ (sI σ 111 (upd (σ.1 111) 0 (iI 0))) := DF_f0 DF.rf
  have hR0 := hq.RO hR
  have hC0 := hC.q hK0 hq
  generalize sI σ 111 (upd (σ.1 111) 0 (iI 0)) = τ at hq hR0 hC0 ⊢
  refine go_aload_n dX12_feud_5 rfl ?_
  refine go_iload_n dX12_feud_6 rfl ?_
  refine go_iload_n dX12_feud_7 rfl ?_
  refine go_iload_n dX12_feud_8 rfl ?_
  refine go_iload dX12_feud_9 rfl ?_
  refine go_iload dX12_feud_11 rfl ?_
  refine go_callV (as := [_, _, _, _, _]) wX12_457 dX12_feud_13 rfl rfl rfl rfl (Nat.le_of_ble_eq_true rfl) (ct_X12_isFeud hR0 hC0.2.1 hK0.s ha32 hb32 hf32 hg32 hn32 (fun a' b' f' g' n' hae hbe hfe hge hne hal hbl hab hfl hgl h1 h2 => ?_) (fun hxx => ?_))
  · refine go_if_eq (tgt := 59) dX12_feud_16 (by decide) (fun h16 => ?_) (fun h16 => ?_)
    · exact absurd h16 (by decide)
    · refine go_iload dX12_feud_19 rfl ?_
      refine go_i2l dX12_feud_21 ?_
      rw [i2l_iI (by omega)]
      refine go_lconst (v := 0) dX12_feud_22 (by decide) ?_
      refine go_lconst (v := 1) dX12_feud_23 (by decide) ?_
      refine go_callS (as := [_, _, _]) wX12_217 dX12_feud_24 rfl rfl (Nat.le_of_ble_eq_true rfl) (ct_isIn2 (x := 0) (y := 1) (by decide) (by decide) (by omega) (fun hix => ?_) (fun hix => ?_))
      · refine go_if_eq (tgt := 59) dX12_feud_27 (by decide) (fun h27 => ?_) (fun h27 => ?_)
        · exact absurd h27 (by decide)
        · refine go_iload dX12_feud_30 rfl ?_
          refine go_i2l dX12_feud_32 ?_
          rw [i2l_iI (by omega)]
          refine go_lconst (v := 0) dX12_feud_33 (by decide) ?_
          refine go_lconst (v := 1) dX12_feud_34 (by decide) ?_
          refine go_callS (as := [_, _, _]) wX12_217 dX12_feud_35 rfl rfl (Nat.le_of_ble_eq_true rfl) (ct_isIn2 (x := 0) (y := 1) (by decide) (by decide) (by omega) (fun hiy => ?_) (fun hiy => ?_))
          · refine go_if_eq (tgt := 59) dX12_feud_38 (by decide) (fun h38 => ?_) (fun h38 => ?_)
            · exact absurd h38 (by decide)
            · obtain ⟨x', hxe⟩ : ∃ x' : Nat, x = x' := ⟨x.toNat, by omega⟩
              obtain ⟨y', hye⟩ : ∃ y' : Nat, y = y' := ⟨y.toNat, by omega⟩
              subst hae hbe hfe hge hne hxe hye
              refine go_aload_n dX12_feud_41 rfl ?_
              refine go_iload_n dX12_feud_42 rfl ?_
              refine go_iload_n dX12_feud_43 rfl ?_
              refine go_iload_n dX12_feud_44 rfl ?_
              refine go_iload dX12_feud_45 rfl ?_
              refine go_iload dX12_feud_47 rfl ?_
              refine go_iload dX12_feud_49 rfl ?_
              refine go_iload dX12_feud_51 rfl ?_
              refine go_callV (as := [_, _, _, _, _, _, _]) wX12_461 dX12_feud_53 rfl rfl rfl rfl (Nat.le_of_ble_eq_true rfl) (ct_X12_feudOf hR0 hK0 hC0 (by omega) (by omega) hfl hgl (by omega) (by omega) (by omega) (fun ρ hq2 => ?_))
              refine go_goto (tgt := 62) dX12_feud_56 (by decide) ?_
              refine go_iret rfl rfl dX12_feud_62 ?_
              have e : feudA X a' b' f' g' n' x' y' = fgA X a' b' f' g' n' x' y' := by unfold feudA; rw [if_pos (by omega)]; simp only [Int.toNat_natCast]
              have h9 := hK ρ (hq.tr hq2)
              rw [e] at h9
              exact h9
          · refine go_if_eq (tgt := 59) dX12_feud_38 (by decide) (fun h38 => ?_) (fun h38 => ?_)
            · refine go_ldcw lX12_408 dX12_feud_59 ?_
              refine go_iret rfl rfl dX12_feud_62 ?_
              have e : feudA X a b f g n x y = -1000000 := by unfold feudA; rw [if_neg (by omega)]
              have h9 := hK τ hq
              rw [e] at h9
              exact h9
            · exact absurd h38 (by decide)
      · refine go_if_eq (tgt := 59) dX12_feud_27 (by decide) (fun h27 => ?_) (fun h27 => ?_)
        · refine go_ldcw lX12_408 dX12_feud_59 ?_
          refine go_iret rfl rfl dX12_feud_62 ?_
          have e : feudA X a b f g n x y = -1000000 := by unfold feudA; rw [if_neg (by omega)]
          have h9 := hK τ hq
          rw [e] at h9
          exact h9
        · exact absurd h27 (by decide)
  · refine go_if_eq (tgt := 59) dX12_feud_16 (by decide) (fun h16 => ?_) (fun h16 => ?_)
    · refine go_ldcw lX12_408 dX12_feud_59 ?_
      refine go_iret rfl rfl dX12_feud_62 ?_
      have e : feudA X a b f g n x y = -1000000 := by unfold feudA; rw [if_neg (by omega)]
      have h9 := hK τ hq
      rw [e] at h9
      exact h9
    · exact absurd h16 (by decide)

theorem rg4 {l : Launch} {D : va_G} {cA ad : Nat → Nat} {d : Nat} {σ : AS} {K : Option Value → AS → Prop} {G : Nat → Int} {i R : Int} (hR : RO σ) (hi : -1 ≤ i ∧ i < 2147483648) (hG : ∀ c, c < 4 → σ.1 110 c = iI (G c)) (hGb : ∀ c, c < 4 → -99 ≤ G c ∧ G c ≤ 99) (hK : K (some (.int (iI R))) σ) : ∀ (r c : Nat) (fd : Int), r + c = 4 → 0 ≤ fd ∧ fd ≤ c → rgF G i r c fd = R → Go l D cA ad d mX6_restAmongGaps 4 [.ref 105, .int (iI i), .int (iI fd), .int (iI c)] [] σ K := by
  intro r
  induction r with
  | zero =>
    intro c fd hr hfd hres
    refine go_iload_n dX6_restAmongGaps_4 rfl ?_
    refine go_aload_n dX6_restAmongGaps_5 rfl ?_
    refine go_getR fX6_18 dX6_restAmongGaps_6 rfl (hR _ _ _ rfl) ?_
    refine go_alen1 dX6_restAmongGaps_9 rfl ?_
    refine go_icmp_ge (tgt := 72) dX6_restAmongGaps_10 (by decide) (fun h10 => ?_) (fun h10 => ?_)
    · refine go_iload_n dX6_restAmongGaps_72 rfl ?_
      refine go_iconst (v := iI (-1)) dX6_restAmongGaps_73 (by decide) ?_
      refine go_icmp_ne (tgt := 81) dX6_restAmongGaps_74 (by decide) (fun h74 => ?_) (fun h74 => ?_)
      · rw [iI_eq (by omega)] at h74
        refine go_iconst (v := iI (-1)) dX6_restAmongGaps_81 (by decide) ?_
        refine go_iret rfl rfl dX6_restAmongGaps_82 ?_
        have e : -1 = R := by rw [← hres]; exact (if_neg h74).symm
        rw [← e] at hK
        exact hK
      · rw [iI_eq (by omega)] at h74
        refine go_iload_n dX6_restAmongGaps_77 rfl ?_
        refine go_goto (tgt := 82) dX6_restAmongGaps_78 (by decide) ?_
        refine go_iret rfl rfl dX6_restAmongGaps_82 ?_
        have e : fd = R := by rw [← hres]; exact (if_pos h74).symm
        rw [← e] at hK
        exact hK
    · exfalso
      rw [show Int32.ofNat 4 = iI 4 from rfl, iI_le (by omega)] at h10
      omega
  | succ r ih =>
    intro c fd hr hfd hres
    refine go_iload_n dX6_restAmongGaps_4 rfl ?_
    refine go_aload_n dX6_restAmongGaps_5 rfl ?_
    refine go_getR fX6_18 dX6_restAmongGaps_6 rfl (hR _ _ _ rfl) ?_
    refine go_alen1 dX6_restAmongGaps_9 rfl ?_
    refine go_icmp_ge (tgt := 72) dX6_restAmongGaps_10 (by decide) (fun h10 => ?_) (fun h10 => ?_)
    · exfalso
      rw [show Int32.ofNat 4 = iI 4 from rfl, iI_le (by omega)] at h10
      omega
    · have hc4 := b_c4 c (by omega)
      have hx4 := xr4 c (by omega)
      have hb0 := hGb c (by omega)
      have hb1 := hGb (c ^^^ 2) hx4.2.2.2.2.1
      have hb2 := hGb (c ^^^ 1) hx4.2.2.2.2.2
      refine go_aload_n dX6_restAmongGaps_13 rfl ?_
      refine go_getR fX6_18 dX6_restAmongGaps_14 rfl (hR _ _ _ rfl) ?_
      refine go_iload_n dX6_restAmongGaps_17 rfl ?_
      refine go_iconst (v := iI 2) dX6_restAmongGaps_18 (by decide) ?_
      refine go_ixor dX6_restAmongGaps_19 ?_
      rw [hc4.2.2.1]
      refine go_iald dX6_restAmongGaps_20 rfl (vp_iI (by omega)) ?_
      rw [cl_n _ (by omega), hG _ hx4.2.2.2.2.1]
      refine go_aload_n dX6_restAmongGaps_21 rfl ?_
      refine go_getR fX6_18 dX6_restAmongGaps_22 rfl (hR _ _ _ rfl) ?_
      refine go_iload_n dX6_restAmongGaps_25 rfl ?_
      refine go_iald dX6_restAmongGaps_26 rfl (vp_iI (by omega)) ?_
      rw [cl_n _ (by omega), hG c (by omega)]
      refine go_icmp_gt (tgt := 66) dX6_restAmongGaps_27 (by decide) (fun h27 => ?_) (fun h27 => ?_)
      · rw [iI_lt (by omega)] at h27
        refine go_iincI dX6_restAmongGaps_66 rfl (Nat.le_of_ble_eq_true rfl) rfl ?_
        refine go_goto (tgt := 4) dX6_restAmongGaps_69 (by decide) ?_
        simp only [List.set, iI_add]
        have e : rgF G i (r + 1) c fd = rgF G i r (c + 1) fd := if_neg (by omega)
        exact ih (c + 1) fd (by omega) (by omega) (by rw [← e]; exact hres)
      · rw [iI_lt (by omega)] at h27
        refine go_aload_n dX6_restAmongGaps_30 rfl ?_
        refine go_getR fX6_18 dX6_restAmongGaps_31 rfl (hR _ _ _ rfl) ?_
        refine go_iload_n dX6_restAmongGaps_34 rfl ?_
        refine go_iconst (v := iI 1) dX6_restAmongGaps_35 (by decide) ?_
        refine go_ixor dX6_restAmongGaps_36 ?_
        rw [hc4.2.2.2]
        refine go_iald dX6_restAmongGaps_37 rfl (vp_iI (by omega)) ?_
        rw [cl_n _ (by omega), hG _ hx4.2.2.2.2.2]
        refine go_aload_n dX6_restAmongGaps_38 rfl ?_
        refine go_getR fX6_18 dX6_restAmongGaps_39 rfl (hR _ _ _ rfl) ?_
        refine go_iload_n dX6_restAmongGaps_42 rfl ?_
        refine go_iald dX6_restAmongGaps_43 rfl (vp_iI (by omega)) ?_
        rw [cl_n _ (by omega), hG c (by omega)]
        refine go_icmp_lt (tgt := 66) dX6_restAmongGaps_44 (by decide) (fun h44 => ?_) (fun h44 => ?_)
        · rw [iI_lt (by omega)] at h44
          refine go_iincI dX6_restAmongGaps_66 rfl (Nat.le_of_ble_eq_true rfl) rfl ?_
          refine go_goto (tgt := 4) dX6_restAmongGaps_69 (by decide) ?_
          simp only [List.set, iI_add]
          have e : rgF G i (r + 1) c fd = rgF G i r (c + 1) fd := if_neg (by omega)
          exact ih (c + 1) fd (by omega) (by omega) (by rw [← e]; exact hres)
        · rw [iI_lt (by omega)] at h44
          refine go_iload_n dX6_restAmongGaps_47 rfl ?_
          refine go_iload_n dX6_restAmongGaps_48 rfl ?_
          refine go_icmp_ne (tgt := 63) dX6_restAmongGaps_49 (by decide) (fun h49 => ?_) (fun h49 => ?_)
          · rw [iI_eq (by omega)] at h49
            refine go_iincI dX6_restAmongGaps_63 rfl (Nat.le_of_ble_eq_true rfl) rfl ?_
            refine go_iincI dX6_restAmongGaps_66 rfl (Nat.le_of_ble_eq_true rfl) rfl ?_
            refine go_goto (tgt := 4) dX6_restAmongGaps_69 (by decide) ?_
            simp only [List.set, iI_add]
            have e : rgF G i (r + 1) c fd = rgF G i r (c + 1) (fd + 1) := by
              conv => lhs; unfold rgF
              rw [if_pos (by omega), if_neg h49]
            exact ih (c + 1) (fd + 1) (by omega) (by omega) (by rw [← e]; exact hres)
          · rw [iI_eq (by omega)] at h49
            refine go_bipush (v := iI 10) dX6_restAmongGaps_52 (by decide) ?_
            refine go_iload_n dX6_restAmongGaps_54 rfl ?_
            refine go_iconst (v := iI 1) dX6_restAmongGaps_55 (by decide) ?_
            refine go_ishr dX6_restAmongGaps_56 ?_
            rw [hc4.1]
            refine go_imul dX6_restAmongGaps_57 ?_
            refine go_iload_n dX6_restAmongGaps_58 rfl ?_
            refine go_iconst (v := iI 1) dX6_restAmongGaps_59 (by decide) ?_
            refine go_iand dX6_restAmongGaps_60 ?_
            rw [hc4.2.1, iI_mul]
            refine go_iadd dX6_restAmongGaps_61 ?_
            rw [iI_add]
            refine go_iret rfl rfl dX6_restAmongGaps_62 ?_
            have e : 10 * ((c / 2 : Nat) : Int) + ((c % 2 : Nat) : Int) = R := by rw [← hres]; unfold rgF; rw [if_pos (by omega), if_pos h49]
            rw [← e] at hK
            exact hK
theorem ct_X6_restAmongGaps {l : Launch} {D : va_G} {cA ad : Nat → Nat} {d : Nat} {σ : AS} {K : Option Value → AS → Prop} {G : Nat → Int} {i : Int} (hR : RO σ) (hi : -1 ≤ i ∧ i < 2147483648) (hG : ∀ c, c < 4 → σ.1 110 c = iI (G c)) (hGb : ∀ c, c < 4 → -99 ≤ G c ∧ G c ≤ 99) (hK : K (some (.int (iI (rgF G i 4 0 0)))) σ) : Call l D cA ad d mX6_restAmongGaps [.ref 105, .int (iI i)] σ K := by
  refine call_go (by decide) (Nat.le_of_ble_eq_true rfl) (show Go l D cA ad d mX6_restAmongGaps 0 [.ref 105, .int (iI i), .null, .null] [] σ K from ?_)
  refine go_iconst (v := iI 0) dX6_restAmongGaps_0 (by decide) ?_
  refine go_istore_n dX6_restAmongGaps_1 (Nat.le_of_ble_eq_true rfl) rfl ?_
  refine go_iconst (v := iI 0) dX6_restAmongGaps_2 (by decide) ?_
  refine go_istore_n dX6_restAmongGaps_3 (Nat.le_of_ble_eq_true rfl) rfl ?_
  exact rg4 hR hi hG hGb hK 4 0 0 (by omega) (by omega) rfl

theorem rt25 {l : Launch} {D : va_G} {cA ad : Nat → Nat} {d : Nat} {σ : AS} {K : Option Value → AS → Prop} {X : XS} {a b f g n : Nat} {i : Int} (hR : RO σ) (hK0 : XK X) (hC : CI σ X) (ha : a < nP (xs X)) (hb : b < nP (xs X)) (hf : f < nQ (xs X)) (hg : g < nQ (xs X)) (hn : n ≤ 9) (hi : -1 ≤ i ∧ i < 2147483648) (hK : ∀ τ, QF σ τ → K (some (.int (iI (rgF (ggF X a b f g n) i 4 0 0)))) τ) : ∀ (r c : Nat) (τ : AS), r + c = 4 → QF σ τ → (∀ k, k < c → τ.1 110 k = iI (ggF X a b f g n k)) → ∀ v8 : Value, Go l D cA ad (d + 7) mX11_rests 25 [.ref 0, .int (iI (a : Nat)), .int (iI (b : Nat)), .int (iI (f : Nat)), .int (iI (g : Nat)), .int (iI (n : Nat)), .int (iI i), .int (iI (c : Nat)), v8] [] τ K := by
  have hP7 := hK0.s.1
  have hQ9 := hK0.s.2.1
  have hGb : ∀ c, c < 4 → -99 ≤ ggF X a b f g n c ∧ ggF X a b f g n c ≤ 99 := fun c hc => gapA_bd hK0 hn (fuO_lt hK0.w.2.2.1 hf hg (by omega) (by omega))
  intro r
  induction r with
  | zero =>
    intro c τ hr hq hG v8
    refine go_iload dX11_rests_25 rfl ?_
    refine go_aload_n dX11_rests_27 rfl ?_
    refine go_getR fX11_94 dX11_rests_28 rfl (hq.RO hR _ _ _ rfl) ?_
    refine go_getR fX11_317 dX11_rests_31 rfl (hq.RO hR _ _ _ rfl) ?_
    refine go_alen1 dX11_rests_34 rfl ?_
    refine go_icmp_ge (tgt := 87) dX11_rests_35 (by decide) (fun h35 => ?_) (fun h35 => ?_)
    · refine go_aload_n dX11_rests_87 rfl ?_
      refine go_getR fX11_94 dX11_rests_88 rfl (hq.RO hR _ _ _ rfl) ?_
      refine go_iload dX11_rests_91 rfl ?_
      refine go_callV (as := [_]) wX11_320 dX11_rests_93 rfl rfl rfl rfl (Nat.le_of_ble_eq_true rfl) (ct_X6_restAmongGaps (G := ggF X a b f g n) (hq.RO hR) hi (fun k hk => hG k (by omega)) hGb ?_)
      refine go_iret rfl rfl dX11_rests_96 ?_
      exact hK τ hq
    · exfalso
      rw [show Int32.ofNat 4 = iI 4 from rfl, iI_le (by omega)] at h35
      omega
  | succ r ih =>
    intro c τ hr hq hG v8
    refine go_iload dX11_rests_25 rfl ?_
    refine go_aload_n dX11_rests_27 rfl ?_
    refine go_getR fX11_94 dX11_rests_28 rfl (hq.RO hR _ _ _ rfl) ?_
    refine go_getR fX11_317 dX11_rests_31 rfl (hq.RO hR _ _ _ rfl) ?_
    refine go_alen1 dX11_rests_34 rfl ?_
    refine go_icmp_ge (tgt := 87) dX11_rests_35 (by decide) (fun h35 => ?_) (fun h35 => ?_)
    · exfalso
      rw [show Int32.ofNat 4 = iI 4 from rfl, iI_le (by omega)] at h35
      omega
    · have hc4 := b_c4 c (by omega)
      refine go_aload_n dX11_rests_38 rfl ?_
      refine go_getR fX11_94 dX11_rests_39 rfl (hq.RO hR _ _ _ rfl) ?_
      refine go_iload_n dX11_rests_42 rfl ?_
      refine go_iload dX11_rests_43 rfl ?_
      refine go_iload dX11_rests_45 rfl ?_
      refine go_iconst (v := iI 1) dX11_rests_47 (by decide) ?_
      refine go_ishr dX11_rests_48 ?_
      rw [hc4.1]
      refine go_iload dX11_rests_49 rfl ?_
      refine go_iconst (v := iI 1) dX11_rests_51 (by decide) ?_
      refine go_iand dX11_rests_52 ?_
      rw [hc4.2.1]
      refine go_callV (as := [_, _, _, _]) wX11_310 dX11_rests_53 rfl rfl rfl rfl (Nat.le_of_ble_eq_true rfl) (ct_X6_keysOfFeud (hq.RO hR) (hC.q hK0 hq).2.2.1 (pw512 hK0.s hK0.w) (by omega) (by omega) (by omega) (by omega) ?_)
      refine go_istore dX11_rests_56 (Nat.le_of_ble_eq_true rfl) rfl ?_
      refine go_aload_n dX11_rests_58 rfl ?_
      refine go_getR fX11_94 dX11_rests_59 rfl (hq.RO hR _ _ _ rfl) ?_
      refine go_getR fX11_317 dX11_rests_62 rfl (hq.RO hR _ _ _ rfl) ?_
      refine go_iload dX11_rests_65 rfl ?_
      refine go_aload_n dX11_rests_67 rfl ?_
      refine go_getR fX11_94 dX11_rests_68 rfl (hq.RO hR _ _ _ rfl) ?_
      refine go_iload_n dX11_rests_71 rfl ?_
      refine go_iload_n dX11_rests_72 rfl ?_
      refine go_iload dX11_rests_73 rfl ?_
      refine go_iload dX11_rests_75 rfl ?_
      refine go_callV (as := [_, _, _, _]) wX11_314 dX11_rests_77 rfl rfl rfl rfl (Nat.le_of_ble_eq_true rfl) (ct_X6_gapAfter (hq.RO hR) hK0 (hC.q hK0 hq) (by omega) (by omega) (by omega) (fuO_lt hK0.w.2.2.1 hf hg (by omega) (by omega)) (fun ρ hq2 => ?_))
      refine go_iast dX11_rests_80 rfl (vp_iI (by omega)) ?_
      rw [cl_n _ (by omega)]
      refine go_iincI dX11_rests_81 rfl (Nat.le_of_ble_eq_true rfl) rfl ?_
      refine go_goto (tgt := 25) dX11_rests_84 (by decide) ?_
      simp only [List.set, iI_add]
      refine ih (c + 1) _ (by omega) ((hq.tr hq2.1).sI (by decide) (by unfold uC; omega) (by decide)) (fun k hk => ?_) _
      rw [sI_same]
      by_cases h : k = c
      · rw [h, upd_same]; rfl
      · rw [upd_ne _ _ _ _ h]
        rw [hq2.2]
        exact hG k (by omega)
theorem ct_X11_rests {l : Launch} {D : va_G} {cA ad : Nat → Nat} {d : Nat} {σ : AS} {K : Option Value → AS → Prop} {X : XS} {a b f g n i : Int} (hR : RO σ) (hK0 : XK X) (hC : CI σ X) (ha32 : -2147483648 ≤ a ∧ a < 2147483648) (hb32 : -2147483648 ≤ b ∧ b < 2147483648) (hf32 : -2147483648 ≤ f ∧ f < 2147483648) (hg32 : -2147483648 ≤ g ∧ g < 2147483648) (hn32 : -2147483648 ≤ n ∧ n < 2147483648) (hi32 : -2147483648 ≤ i ∧ i < 2147483648) (hK : ∀ τ, QF σ τ → K (some (.int (iI (restsA X a b f g n i)))) τ) : Call l D cA ad (d + 7) mX11_rests [.ref 0, .int (iI a), .int (iI b), .int (iI f), .int (iI g), .int (iI n), .int (iI i)] σ K := by
  have hP7 := hK0.s.1
  have hQ9 := hK0.s.2.1
  refine call_go (by decide) (Nat.le_of_ble_eq_true rfl) (show Go l D cA ad (d + 7) mX11_rests 0 [.ref 0, .int (iI a), .int (iI b), .int (iI f), .int (iI g), .int (iI n), .int (iI i), .null, .null] [] σ K from ?_)
  refine go_aload_n dX11_rests_0 rfl ?_
  refine go_iload_n dX11_rests_1 rfl ?_
  refine go_iload_n dX11_rests_2 rfl ?_
  refine go_iload_n dX11_rests_3 rfl ?_
  refine go_iload dX11_rests_4 rfl ?_
  refine go_iload dX11_rests_6 rfl ?_
  refine go_callV (as := [_, _, _, _, _]) wX11_306 dX11_rests_8 rfl rfl rfl rfl (Nat.le_of_ble_eq_true rfl) (ct_X11_isFeud hR hC.2.1 hK0.s ha32 hb32 hf32 hg32 hn32 (fun a' b' f' g' n' hae hbe hfe hge hne hal hbl hab hfl hgl h1 h2 => ?_) (fun hxx => ?_))
  · refine go_if_eq (tgt := 20) dX11_rests_11 (by decide) (fun h11 => ?_) (fun h11 => ?_)
    · exact absurd h11 (by decide)
    · refine go_iload dX11_rests_14 rfl ?_
      refine go_iconst (v := iI (-1)) dX11_rests_16 (by decide) ?_
      refine go_icmp_ge (tgt := 22) dX11_rests_17 (by decide) (fun h17 => ?_) (fun h17 => ?_)
      · rw [iI_le (by omega)] at h17
        subst hae hbe hfe hge hne
        refine go_iconst (v := iI 0) dX11_rests_22 (by decide) ?_
        refine go_istore dX11_rests_23 (Nat.le_of_ble_eq_true rfl) rfl ?_
        simp only [List.set]
        have e : restsA X a' b' f' g' n' i = rgF (ggF X a' b' f' g' n') i 4 0 0 := by unfold restsA; rw [if_pos (by omega)]; simp only [Int.toNat_natCast]
        rw [e] at hK
        exact rt25 hR hK0 hC hal hbl hfl hgl (by omega) (by omega) hK 4 0 σ (by omega) QF.rf (fun k hk => by omega) _
      · rw [iI_le (by omega)] at h17
        refine go_iconst (v := iI (-1)) dX11_rests_20 (by decide) ?_
        refine go_iret rfl rfl dX11_rests_21 ?_
        have e : restsA X a b f g n i = -1 := by unfold restsA; rw [if_neg (by omega)]
        have h9 := hK σ QF.rf
        rw [e] at h9
        exact h9
  · refine go_if_eq (tgt := 20) dX11_rests_11 (by decide) (fun h11 => ?_) (fun h11 => ?_)
    · refine go_iconst (v := iI (-1)) dX11_rests_20 (by decide) ?_
      refine go_iret rfl rfl dX11_rests_21 ?_
      have e : restsA X a b f g n i = -1 := by unfold restsA; rw [if_neg (by omega)]
      have h9 := hK σ QF.rf
      rw [e] at h9
      exact h9
    · exact absurd h11 (by decide)

theorem mt33 {l : Launch} {D : va_G} {cA ad : Nat → Nat} {d : Nat} {σ : AS} {K : Option Value → AS → Prop} {X : XS} {a b f g n : Nat} {i R : Int} (hR : RO σ) (hK0 : XK X) (hC : MI σ X) (ha : a < nP (xs X)) (hb : b < nP (xs X)) (hf : f < nQ (xs X)) (hg : g < nQ (xs X)) (hn : n ≤ 9) (hi : -1 ≤ i ∧ i < 2147483648) (hK : ∀ τ, DF (xL X) σ τ → K (some (.int (iI R))) τ) : ∀ (r c : Nat) (fd : Int) (τ : AS), r + c = 4 → 0 ≤ fd ∧ fd ≤ c → DF (xL X) σ τ → rgF (ggF X a b f g n) i r c fd = R → ∀ v9 v10 v11 : Value, Go l D cA ad (d + 38) mX12_rests 33 [.ref 111, .int (iI (a : Nat)), .int (iI (b : Nat)), .int (iI (f : Nat)), .int (iI (g : Nat)), .int (iI (n : Nat)), .int (iI i), .int (iI fd), .int (iI (c : Nat)), v9, v10, v11] [] τ K := by
  have hP7 := hK0.s.1
  have hQ9 := hK0.s.2.1
  have hGb : ∀ c, c < 4 → -99 ≤ ggF X a b f g n c ∧ ggF X a b f g n c ≤ 99 := fun c hc => gapA_bd hK0 hn (fuO_lt hK0.w.2.2.1 hf hg (by omega) (by omega))
  intro r
  induction r with
  | zero =>
    intro c fd τ hr hfd hq hres v9 v10 v11
    refine go_iload dX12_rests_33 rfl ?_
    refine go_iconst (v := iI 4) dX12_rests_35 (by decide) ?_
    refine go_icmp_ge (tgt := 140) dX12_rests_36 (by decide) (fun h36 => ?_) (fun h36 => ?_)
    · refine go_iload dX12_rests_140 rfl ?_
      refine go_iconst (v := iI (-1)) dX12_rests_142 (by decide) ?_
      refine go_icmp_ne (tgt := 151) dX12_rests_143 (by decide) (fun h143 => ?_) (fun h143 => ?_)
      · rw [iI_eq (by omega)] at h143
        refine go_iconst (v := iI (-1)) dX12_rests_151 (by decide) ?_
        refine go_iret rfl rfl dX12_rests_152 ?_
        have e : -1 = R := by rw [← hres]; exact (if_neg h143).symm
        rw [← e] at hK
        exact hK τ hq
      · rw [iI_eq (by omega)] at h143
        refine go_iload dX12_rests_146 rfl ?_
        refine go_goto (tgt := 152) dX12_rests_148 (by decide) ?_
        refine go_iret rfl rfl dX12_rests_152 ?_
        have e : fd = R := by rw [← hres]; exact (if_pos h143).symm
        rw [← e] at hK
        exact hK τ hq
    · exfalso
      rw [iI_le (by omega)] at h36
      omega
  | succ r ih =>
    intro c fd τ hr hfd hq hres v9 v10 v11
    refine go_iload dX12_rests_33 rfl ?_
    refine go_iconst (v := iI 4) dX12_rests_35 (by decide) ?_
    refine go_icmp_ge (tgt := 140) dX12_rests_36 (by decide) (fun h36 => ?_) (fun h36 => ?_)
    · exfalso
      rw [iI_le (by omega)] at h36
      omega
    · have hx4 := xr4 c (by omega)
      have hb0 := hGb c (by omega)
      have hb1 := hGb (c ^^^ 2) hx4.2.2.2.2.1
      have hb2 := hGb (c ^^^ 1) hx4.2.2.2.2.2
      refine go_iload dX12_rests_39 rfl ?_
      refine go_iconst (v := iI 2) dX12_rests_41 (by decide) ?_
      refine go_idiv dX12_rests_42 (by decide) ?_
      rw [iI_div (by omega) (by decide), show (c : Int) / 2 = ((c / 2 : Nat) : Int) by omega]
      refine go_istore dX12_rests_43 (Nat.le_of_ble_eq_true rfl) rfl ?_
      refine go_iload dX12_rests_45 rfl ?_
      refine go_iconst (v := iI 2) dX12_rests_47 (by decide) ?_
      refine go_irem dX12_rests_48 (by decide) ?_
      rw [iI_rem (by omega) (by decide), show (c : Int) % 2 = ((c % 2 : Nat) : Int) by omega]
      refine go_istore dX12_rests_49 (Nat.le_of_ble_eq_true rfl) rfl ?_
      refine go_aload_n dX12_rests_51 rfl ?_
      refine go_iload_n dX12_rests_52 rfl ?_
      refine go_iload_n dX12_rests_53 rfl ?_
      refine go_iload_n dX12_rests_54 rfl ?_
      refine go_iload dX12_rests_55 rfl ?_
      refine go_iload dX12_rests_57 rfl ?_
      refine go_iload dX12_rests_59 rfl ?_
      refine go_iload dX12_rests_61 rfl ?_
      refine go_callV (as := [_, _, _, _, _, _, _]) wX12_461 dX12_rests_63 rfl rfl rfl rfl (Nat.le_of_ble_eq_true rfl) (ct_X12_feudOf (x := c / 2) (y := c % 2) (hq.RO hR) hK0 (hC.q hK0 hq) (by omega) (by omega) hf hg (by omega) (by omega) (by omega) (fun ρ1 q1 => ?_))
      rw [show fgA X a b f g n (c / 2) (c % 2) = ggF X a b f g n c from rfl]
      have hq1 := hq.tr q1
      refine go_istore dX12_rests_66 (Nat.le_of_ble_eq_true rfl) rfl ?_
      refine go_aload_n dX12_rests_68 rfl ?_
      refine go_iload_n dX12_rests_69 rfl ?_
      refine go_iload_n dX12_rests_70 rfl ?_
      refine go_iload_n dX12_rests_71 rfl ?_
      refine go_iload dX12_rests_72 rfl ?_
      refine go_iload dX12_rests_74 rfl ?_
      refine go_iconst (v := iI 1) dX12_rests_76 (by decide) ?_
      refine go_iload dX12_rests_77 rfl ?_
      refine go_isub dX12_rests_79 ?_
      rw [iI_sub, show 1 - ((c / 2 : Nat) : Int) = ((1 - c / 2 : Nat) : Int) by omega]
      refine go_iload dX12_rests_80 rfl ?_
      refine go_callV (as := [_, _, _, _, _, _, _]) wX12_461 dX12_rests_82 rfl rfl rfl rfl (Nat.le_of_ble_eq_true rfl) (ct_X12_feudOf (x := 1 - c / 2) (y := c % 2) (hq1.RO hR) hK0 (hC.q hK0 hq1) (by omega) (by omega) hf hg (by omega) (by omega) (by omega) (fun ρ2 q2 => ?_))
      rw [show fgA X a b f g n (1 - c / 2) (c % 2) = ggF X a b f g n (c ^^^ 2) by unfold ggF; rw [hx4.1, hx4.2.1]]
      have hq2 := hq1.tr q2
      refine go_iload dX12_rests_85 rfl ?_
      refine go_icmp_gt (tgt := 134) dX12_rests_87 (by decide) (fun h87 => ?_) (fun h87 => ?_)
      · rw [iI_lt (by omega)] at h87
        refine go_iincI dX12_rests_134 rfl (Nat.le_of_ble_eq_true rfl) rfl ?_
        refine go_goto (tgt := 33) dX12_rests_137 (by decide) ?_
        simp only [List.set, iI_add]
        have e : rgF (ggF X a b f g n) i (r + 1) c fd = rgF (ggF X a b f g n) i r (c + 1) fd := if_neg (by omega)
        exact ih (c + 1) fd ρ2 (by omega) (by omega) hq2 (by rw [← e]; exact hres) _ _ _
      · rw [iI_lt (by omega)] at h87
        refine go_aload_n dX12_rests_90 rfl ?_
        refine go_iload_n dX12_rests_91 rfl ?_
        refine go_iload_n dX12_rests_92 rfl ?_
        refine go_iload_n dX12_rests_93 rfl ?_
        refine go_iload dX12_rests_94 rfl ?_
        refine go_iload dX12_rests_96 rfl ?_
        refine go_iload dX12_rests_98 rfl ?_
        refine go_iconst (v := iI 1) dX12_rests_100 (by decide) ?_
        refine go_iload dX12_rests_101 rfl ?_
        refine go_isub dX12_rests_103 ?_
        rw [iI_sub, show 1 - ((c % 2 : Nat) : Int) = ((1 - c % 2 : Nat) : Int) by omega]
        refine go_callV (as := [_, _, _, _, _, _, _]) wX12_461 dX12_rests_104 rfl rfl rfl rfl (Nat.le_of_ble_eq_true rfl) (ct_X12_feudOf (x := c / 2) (y := 1 - c % 2) (hq2.RO hR) hK0 (hC.q hK0 hq2) (by omega) (by omega) hf hg (by omega) (by omega) (by omega) (fun ρ3 q3 => ?_))
        rw [show fgA X a b f g n (c / 2) (1 - c % 2) = ggF X a b f g n (c ^^^ 1) by unfold ggF; rw [hx4.2.2.1, hx4.2.2.2.1]]
        have hq3 := hq2.tr q3
        refine go_iload dX12_rests_107 rfl ?_
        refine go_icmp_ge (tgt := 115) dX12_rests_109 (by decide) (fun h109 => ?_) (fun h109 => ?_)
        · rw [iI_le (by omega)] at h109
          refine go_iload dX12_rests_115 rfl ?_
          refine go_iload dX12_rests_117 rfl ?_
          refine go_icmp_ne (tgt := 131) dX12_rests_119 (by decide) (fun h119 => ?_) (fun h119 => ?_)
          · rw [iI_eq (by omega)] at h119
            refine go_iincI dX12_rests_131 rfl (Nat.le_of_ble_eq_true rfl) rfl ?_
            refine go_iincI dX12_rests_134 rfl (Nat.le_of_ble_eq_true rfl) rfl ?_
            refine go_goto (tgt := 33) dX12_rests_137 (by decide) ?_
            simp only [List.set, iI_add]
            have e : rgF (ggF X a b f g n) i (r + 1) c fd = rgF (ggF X a b f g n) i r (c + 1) (fd + 1) := by
              conv => lhs; unfold rgF
              rw [if_pos (by omega), if_neg h119]
            exact ih (c + 1) (fd + 1) ρ3 (by omega) (by omega) hq3 (by rw [← e]; exact hres) _ _ _
          · rw [iI_eq (by omega)] at h119
            refine go_bipush (v := iI 10) dX12_rests_122 (by decide) ?_
            refine go_iload dX12_rests_124 rfl ?_
            refine go_imul dX12_rests_126 ?_
            refine go_iload dX12_rests_127 rfl ?_
            refine go_iadd dX12_rests_129 ?_
            rw [iI_mul, iI_add]
            refine go_iret rfl rfl dX12_rests_130 ?_
            have e : 10 * ((c / 2 : Nat) : Int) + ((c % 2 : Nat) : Int) = R := by rw [← hres]; unfold rgF; rw [if_pos (by omega), if_pos h119]
            rw [← e] at hK
            exact hK ρ3 hq3
        · rw [iI_le (by omega)] at h109
          refine go_goto (tgt := 134) dX12_rests_112 (by decide) ?_
          refine go_iincI dX12_rests_134 rfl (Nat.le_of_ble_eq_true rfl) rfl ?_
          refine go_goto (tgt := 33) dX12_rests_137 (by decide) ?_
          simp only [List.set, iI_add]
          have e : rgF (ggF X a b f g n) i (r + 1) c fd = rgF (ggF X a b f g n) i r (c + 1) fd := if_neg (by omega)
          exact ih (c + 1) fd ρ3 (by omega) (by omega) hq3 (by rw [← e]; exact hres) _ _ _
theorem ct_X12_rests {l : Launch} {D : va_G} {cA ad : Nat → Nat} {d : Nat} {σ : AS} {K : Option Value → AS → Prop} {X : XS} {a b f g n i : Int} (hR : RO σ) (hK0 : XK X) (hC : MI σ X) (ha32 : -2147483648 ≤ a ∧ a < 2147483648) (hb32 : -2147483648 ≤ b ∧ b < 2147483648) (hf32 : -2147483648 ≤ f ∧ f < 2147483648) (hg32 : -2147483648 ≤ g ∧ g < 2147483648) (hn32 : -2147483648 ≤ n ∧ n < 2147483648) (hi32 : -2147483648 ≤ i ∧ i < 2147483648) (hK : ∀ τ, DF (xL X) σ τ → K (some (.int (iI (restsA X a b f g n i)))) τ) : Call l D cA ad (d + 38) mX12_rests [.ref 111, .int (iI a), .int (iI b), .int (iI f), .int (iI g), .int (iI n), .int (iI i)] σ K := by
  have hP7 := hK0.s.1
  have hQ9 := hK0.s.2.1
  refine call_go (by decide) (Nat.le_of_ble_eq_true rfl) (show Go l D cA ad (d + 38) mX12_rests 0 [.ref 111, .int (iI a), .int (iI b), .int (iI f), .int (iI g), .int (iI n), .int (iI i), .null, .null, .null, .null, .null] [] σ K from ?_)
  refine go_aload_n dX12_rests_0 rfl ?_
  refine go_iconst (v := iI 0) dX12_rests_1 (by decide) ?_
  refine go_putI fX12_96 rfl dX12_rests_2 rfl rfl rfl ?_
  have hq : DF (xL X) σ (sI σ 111 (upd (σ.1 111) 0 (iI 0))) := DF_f0 DF.rf
  have hR0 := hq.RO hR
  have hC0 := hC.q hK0 hq
  generalize sI σ 111 (upd (σ.1 111) 0 (iI 0)) = τ at hq hR0 hC0 ⊢
  refine go_aload_n dX12_rests_5 rfl ?_
  refine go_iload_n dX12_rests_6 rfl ?_
  refine go_iload_n dX12_rests_7 rfl ?_
  refine go_iload_n dX12_rests_8 rfl ?_
  refine go_iload dX12_rests_9 rfl ?_
  refine go_iload dX12_rests_11 rfl ?_
  refine go_callV (as := [_, _, _, _, _]) wX12_457 dX12_rests_13 rfl rfl rfl rfl (Nat.le_of_ble_eq_true rfl) (ct_X12_isFeud hR0 hC0.2.1 hK0.s ha32 hb32 hf32 hg32 hn32 (fun a' b' f' g' n' hae hbe hfe hge hne hal hbl hab hfl hgl h1 h2 => ?_) (fun hxx => ?_))
  · refine go_if_eq (tgt := 25) dX12_rests_16 (by decide) (fun h16 => ?_) (fun h16 => ?_)
    · exact absurd h16 (by decide)
    · refine go_iload dX12_rests_19 rfl ?_
      refine go_iconst (v := iI (-1)) dX12_rests_21 (by decide) ?_
      refine go_icmp_ge (tgt := 27) dX12_rests_22 (by decide) (fun h22 => ?_) (fun h22 => ?_)
      · rw [iI_le (by omega)] at h22
        subst hae hbe hfe hge hne
        refine go_iconst (v := iI 0) dX12_rests_27 (by decide) ?_
        refine go_istore dX12_rests_28 (Nat.le_of_ble_eq_true rfl) rfl ?_
        refine go_iconst (v := iI 0) dX12_rests_30 (by decide) ?_
        refine go_istore dX12_rests_31 (Nat.le_of_ble_eq_true rfl) rfl ?_
        simp only [List.set]
        have e : restsA X a' b' f' g' n' i = rgF (ggF X a' b' f' g' n') i 4 0 0 := by unfold restsA; rw [if_pos (by omega)]; simp only [Int.toNat_natCast]
        rw [e] at hK
        exact mt33 hR0 hK0 hC0 hal hbl hfl hgl (by omega) (by omega) (fun ρ hq2 => hK ρ (hq.tr hq2)) 4 0 0 τ (by omega) (by omega) DF.rf rfl _ _ _
      · rw [iI_le (by omega)] at h22
        refine go_iconst (v := iI (-1)) dX12_rests_25 (by decide) ?_
        refine go_iret rfl rfl dX12_rests_26 ?_
        have e : restsA X a b f g n i = -1 := by unfold restsA; rw [if_neg (by omega)]
        have h9 := hK τ hq
        rw [e] at h9
        exact h9
  · refine go_if_eq (tgt := 25) dX12_rests_16 (by decide) (fun h16 => ?_) (fun h16 => ?_)
    · refine go_iconst (v := iI (-1)) dX12_rests_25 (by decide) ?_
      refine go_iret rfl rfl dX12_rests_26 ?_
      have e : restsA X a b f g n i = -1 := by unfold restsA; rw [if_neg (by omega)]
      have h9 := hK τ hq
      rw [e] at h9
      exact h9
    · exact absurd h16 (by decide)

