/-! the class: years, law, odds, image, back, measured -/
def drS (x : Int64) : Int64 := x * 6364136223846793005 + 1442695040888963407
def drU (x : Int64) : Int64 := (x.toUInt64 >>> ((iI 33).toInt64.toUInt64 &&& Int64.toUInt64 63)).toInt64
def drN (x : Int64) (m : Nat) : Nat := (drU x).toInt.toNat % m
theorem drU_bd (x : Int64) : 0 ≤ (drU x).toInt ∧ (drU x).toInt < 2147483648 := by
  have e : (drU x).toBitVec = x.toBitVec >>> 33 := by
    have hs : (((iI 33).toInt64.toUInt64 &&& Int64.toUInt64 63).toBitVec % 64).toNat = 33 := by decide
    have := UInt64.toBitVec_shiftRight x.toUInt64 ((iI 33).toInt64.toUInt64 &&& Int64.toUInt64 63)
    show (x.toUInt64 >>> ((iI 33).toInt64.toUInt64 &&& Int64.toUInt64 63)).toBitVec = _
    rw [this]
    show x.toBitVec >>> (((iI 33).toInt64.toUInt64 &&& Int64.toUInt64 63).toBitVec % 64).toNat = _
    rw [hs]
  have h : (drU x).toInt = (drU x).toBitVec.toInt := rfl
  have hl := x.toBitVec.isLt
  rw [h, e, BitVec.toInt_eq_toNat_cond, BitVec.toNat_ushiftRight, Nat.shiftRight_eq_div_pow]
  have h2 : x.toBitVec.toNat / 2 ^ 33 < 2147483648 := by
    rw [Nat.div_lt_iff_lt_mul (by decide)]
    exact hl
  split <;> omega
theorem drV (x : Int64) {m : Nat} (hm : 1 ≤ m ∧ m ≤ 1000) : (drU x - drU x / lL m * lL m).toInt32 = iI (drN x m) := by
  have hb := drU_bd x
  unfold drN
  generalize hz : (drU x).toInt = z at hb
  have e : drU x = lL z := by rw [← hz, lL_of]
  rw [e, lL_div (by omega) (by omega), lL_mul, lL_sub, l2i_lL]
  congr 1
  rw [Int.tdiv_eq_ediv_of_nonneg hb.1, Int.natCast_emod, Int.toNat_of_nonneg hb.1]
  have := Int.mul_ediv_add_emod z m
  rw [Int.mul_comm (z / m) m]
  omega
theorem drN_lt (x : Int64) {m : Nat} (hm : 1 ≤ m) : drN x m < m := Nat.mod_lt _ hm
def LF (k0 : Nat) (σ τ : AS) : Prop := τ.1 = σ.1 ∧ τ.2.2 = σ.2.2 ∧ ∀ k, k ≠ k0 → τ.2.1 k = σ.2.1 k
theorem LF.set {k0 j : Nat} {x : Int64} {σ : AS} : LF k0 σ (sL σ k0 (vp_updL (σ.2.1 k0) j x)) := ⟨rfl, rfl, fun k hk => if_neg hk⟩
theorem sL_at {k0 j : Nat} {x : Int64} {σ : AS} : (sL σ k0 (vp_updL (σ.2.1 k0) j x)).2.1 k0 j = x := by
  unfold sL
  simp only [if_pos]
  exact vp_updL_same _ _ _
theorem LF.fc {σ τ : AS} (h : LF 0 σ τ) : FC σ τ := ⟨h.2.1, h.2.2, fun k _ => by rw [h.1]⟩
theorem LF.RO {k0 : Nat} {σ τ : AS} (h : LF k0 σ τ) (hR : RO σ) : RO τ := fun k j a e => by rw [h.2.1]; exact hR k j a e
theorem CI.l {σ τ : AS} {X : XS} (hC : CI σ X) (h : τ.1 = σ.1) : CI τ X := by
  obtain ⟨a, b, c⟩ := σ
  obtain ⟨a', b', c'⟩ := τ
  have h : a' = a := h
  subst h
  exact hC
theorem ct_remC2 {l : Launch} {D : va_G} {cA ad : Nat → Nat} {d : Nat} {σ : AS} {K : Option Value → AS → Prop} {X : XS} (hR : RO σ) (hK0 : XK X) (hC : CI σ X) (hK : ∀ τ, FC σ τ → τ.2 = σ.2 → CI τ (remX X) → K none τ) : Call l D cA ad (d + 2) mX0_remember [.ref 93, .ref 87, .ref 91] σ K :=
  ct_X0_remember hR hC.2.2.1 hC.2.2.2.1.1 hK0.a.1 hC.2.2.2.2.1 (fun τ fs hA => hK τ (FC.ofS fs (by decide)) fs.1 (CI_rem hC hK0 fs hA))
theorem ct_dayC2 {l : Launch} {D : va_G} {cA ad : Nat → Nat} {d : Nat} {σ : AS} {K : Option Value → AS → Prop} {X : XS} {rain : Int} (hR : RO σ) (hK0 : XK X) (hC : CI σ X) (hd : HdX X) (hr : 0 ≤ rain ∧ rain ≤ 1000) (hK : ∀ τ, FC σ τ → τ.2 = σ.2 → CI τ (dayX X rain) → K none τ) : Call l D cA ad (d + 5) mX11_passDay [.ref 0, .int (iI rain)] σ K :=
  ct_X11_passDay hR hC.2.1 hK0.s hC.2.2.1 hK0.w hK0.L hC.2.2.2.2.2.2.2.1 hr (by have := hK0.d; omega) hC.2.2.2.1.1 (fun τ fs hW h1 h2 h3 => hK τ (FC.ofS fs (by decide)) fs.1 (CI_day hC hK0 hd hr.1 fs hW h1 h2 h3))
theorem ct_X11_draw {l : Launch} {D : va_G} {cA ad : Nat → Nat} {d : Nat} {σ : AS} {K : Option Value → AS → Prop} {m : Nat} {x : Int64} (hm : 1 ≤ m ∧ m ≤ 1000) (hx : σ.2.1 0 18 = x) (hK : ∀ τ, LF 0 σ τ → τ.2.1 0 18 = drS x → K (some (.int (iI (drN (drS x) m)))) τ) : Call l D cA ad d mX11_draw [.ref 0, .int (iI (m : Nat))] σ K := by
  refine call_go (by decide) (Nat.le_of_ble_eq_true rfl) (show Go l D cA ad d mX11_draw 0 [.ref 0, .int (iI (m : Nat))] [] σ K from ?_)
  refine go_aload_n dX11_draw_0 rfl ?_
  refine go_aload_n dX11_draw_1 rfl ?_
  refine go_getL fX11_199 dX11_draw_2 rfl ?_
  rw [hx]
  refine go_ldc2 lX11_406 dX11_draw_5 ?_
  refine go_lmul dX11_draw_8 ?_
  refine go_ldc2 lX11_408 dX11_draw_9 ?_
  refine go_ladd dX11_draw_12 ?_
  refine go_putL fX11_199 rfl dX11_draw_13 rfl rfl rfl ?_
  have hl : LF 0 σ (sL σ 0 (vp_updL (σ.2.1 0) 18 (drS x))) := LF.set
  have e18 : (sL σ 0 (vp_updL (σ.2.1 0) 18 (drS x))).2.1 0 18 = drS x := sL_at
  show Go l D cA ad d mX11_draw 16 _ _ (sL σ 0 (vp_updL (σ.2.1 0) 18 (drS x))) K
  generalize sL σ 0 (vp_updL (σ.2.1 0) 18 (drS x)) = τ at hl e18 ⊢
  refine go_iload_n dX11_draw_16 rfl ?_
  refine go_iconst (v := iI 1) dX11_draw_17 (by decide) ?_
  refine go_icmp_ge (tgt := 25) dX11_draw_18 (by decide) (fun h18 => ?_) (fun h18 => ?_)
  · refine go_aload_n dX11_draw_25 rfl ?_
    refine go_getL fX11_199 dX11_draw_26 rfl ?_
    rw [e18]
    refine go_bipush (v := iI 33) dX11_draw_29 (by decide) ?_
    refine go_lushr dX11_draw_31 ?_
    refine go_iload_n dX11_draw_32 rfl ?_
    refine go_i2l dX11_draw_33 ?_
    rw [i2l_iI (by omega)]
    refine go_lrem dX11_draw_34 (by rw [lL_0, lL_eq (by omega) (by omega)]; omega) ?_
    refine go_l2i dX11_draw_35 ?_
    refine go_iret rfl rfl dX11_draw_36 ?_
    have h9 := drV (drS x) hm
    unfold drU at h9
    rw [h9]
    exact hK τ hl e18
  · exfalso
    rw [iI_le (by omega)] at h18
    omega

def yrD (Y : XS) (x : Int64) : XS × Int × Int64 :=
  if (drN (drS x) 100 : Int) < xo Y then (Y, (drN (drS (drS x)) 10 : Int), drS (drS x))
  else if (drN (drS (drS x)) 100 : Int) < xk Y then
    (if pk (xw Y) (drN (drS (drS (drS x))) (nP (xs Y))) < 9 then setW Y (stkF (xw Y) (drN (drS (drS (drS x))) (nP (xs Y))) 0) else Y, 0, drS (drS (drS x)))
  else (Y, 0, drS (drS x))
theorem yrD_1 {Y : XS} {x : Int64} (h : (drN (drS x) 100 : Int) < xo Y) : yrD Y x = (Y, (drN (drS (drS x)) 10 : Int), drS (drS x)) := if_pos h
theorem yrD_2 {Y : XS} {x : Int64} (h : ¬ (drN (drS x) 100 : Int) < xo Y) (h2 : ¬ (drN (drS (drS x)) 100 : Int) < xk Y) : yrD Y x = (Y, 0, drS (drS x)) := by unfold yrD; rw [if_neg h, if_neg h2]
theorem yrD_3 {Y : XS} {x : Int64} (h : ¬ (drN (drS x) 100 : Int) < xo Y) (h2 : (drN (drS (drS x)) 100 : Int) < xk Y) (h3 : pk (xw Y) (drN (drS (drS (drS x))) (nP (xs Y))) < 9) : yrD Y x = (setW Y (stkF (xw Y) (drN (drS (drS (drS x))) (nP (xs Y))) 0), 0, drS (drS (drS x))) := by unfold yrD; rw [if_neg h, if_pos h2, if_pos h3]
theorem yrD_4 {Y : XS} {x : Int64} (h : ¬ (drN (drS x) 100 : Int) < xo Y) (h2 : (drN (drS (drS x)) 100 : Int) < xk Y) (h3 : ¬ pk (xw Y) (drN (drS (drS (drS x))) (nP (xs Y))) < 9) : yrD Y x = (Y, 0, drS (drS (drS x))) := by unfold yrD; rw [if_neg h, if_pos h2, if_neg h3]
theorem yrD_ok {Y : XS} {x : Int64} (h : XK Y) (hd : HdX Y) (hp : 0 < nP (xs Y)) : XK (yrD Y x).1 ∧ HdX (yrD Y x).1 ∧ dy (xw (yrD Y x).1) = dy (xw Y) ∧ xs (yrD Y x).1 = xs Y ∧ 0 ≤ (yrD Y x).2.1 ∧ (yrD Y x).2.1 ≤ 9 := by
  by_cases h1 : (drN (drS x) 100 : Int) < xo Y
  · rw [yrD_1 h1]
    have := drN_lt (drS (drS x)) (m := 10) (by decide)
    exact ⟨h, hd, rfl, rfl, by show 0 ≤ (drN (drS (drS x)) 10 : Int); omega, by show (drN (drS (drS x)) 10 : Int) ≤ 9; omega⟩
  · by_cases h2 : (drN (drS (drS x)) 100 : Int) < xk Y
    · by_cases h3 : pk (xw Y) (drN (drS (drS (drS x))) (nP (xs Y))) < 9
      · rw [yrD_3 h1 h2 h3]
        have hq := drN_lt (drS (drS (drS x))) (m := nP (xs Y)) hp
        exact ⟨XK_set h (stkF_ok h.w hq (by decide) (fun _ => by omega) (fun q => absurd rfl q)) stkF_dy, Hd_set hd stkF_dy, show dy (stkF (xw Y) _ 0) = dy (xw Y) from stkF_dy, rfl, show (0 : Int) ≤ 0 by decide, show (0 : Int) ≤ 9 by decide⟩
      · rw [yrD_4 h1 h2 h3]; exact ⟨h, hd, rfl, rfl, show (0 : Int) ≤ 0 by decide, show (0 : Int) ≤ 9 by decide⟩
    · rw [yrD_2 h1 h2]; exact ⟨h, hd, rfl, rfl, show (0 : Int) ≤ 0 by decide, show (0 : Int) ≤ 9 by decide⟩
def yrX : Nat → Int64 → XS → XS
  | 0, _, X => X
  | n + 1, x, X => yrX n (yrD (remX X) x).2.2 (dayX (yrD (remX X) x).1 (skv (xs X) 0 + (yrD (remX X) x).2.1))
theorem yr1_ok {X : XS} {x : Int64} (h : XK X) (hp : 0 < nP (xs X)) (hd : dy (xw X) < 9999) : XK (dayX (yrD (remX X) x).1 (skv (xs X) 0 + (yrD (remX X) x).2.1)) ∧ dy (xw (dayX (yrD (remX X) x).1 (skv (xs X) 0 + (yrD (remX X) x).2.1))) = dy (xw X) + 1 ∧ xs (dayX (yrD (remX X) x).1 (skv (xs X) 0 + (yrD (remX X) x).2.1)) = xs X := by
  obtain ⟨h1, h2, h3, h4, h5, h6⟩ := yrD_ok (x := x) (XK_rem h) (Hd_rem X) hp
  have hs := (sk09 h).1
  exact ⟨XK_day h1 h2 (by omega) (by rw [h3]; exact hd), by rw [show dy (xw (dayX (yrD (remX X) x).1 _)) = _ from (dayX_ok h1 (by omega)).2.2, h3]; rfl, h4⟩
theorem yrX_ok : ∀ (n : Nat) (x : Int64) (X : XS), XK X → 0 < nP (xs X) → dy (xw X) + n ≤ 9999 → XK (yrX n x X) ∧ dy (xw (yrX n x X)) = dy (xw X) + n
  | 0, _, X, h, _, _ => ⟨h, rfl⟩
  | n + 1, x, X, h, hp, hd => by
    obtain ⟨h1, h2, h3⟩ := yr1_ok (x := x) h hp (by omega)
    have h4 := yrX_ok n (yrD (remX X) x).2.2 _ h1 (by rw [h3]; exact hp) (by rw [h2]; omega)
    exact ⟨h4.1, by show dy (xw (yrX n _ _)) = _; rw [h4.2, h2]; omega⟩
def yearsX (X : XS) (a : Int) (x : Int64) : XS := if a ≤ 60 ∧ can2 (xs X) (xw X) a then yrX a.toNat x X else X
theorem yearsK {X : XS} {a : Int} {x : Int64} (h : XK X) : XK (yearsX X a x) := by
  unfold yearsX
  split
  · rename_i q; exact (yrX_ok _ x X h q.2.1 (by omega)).1
  · exact h
theorem ct_X11_rainOfDraws {l : Launch} {D : va_G} {cA ad : Nat → Nat} {d : Nat} {σ : AS} {K : Option Value → AS → Prop} {Y : XS} {x : Int64} (hR : RO σ) (hK0 : XK Y) (hC : CI σ Y) (hp : 0 < nP (xs Y)) (hx : σ.2.1 0 18 = x) (hK : ∀ τ, FC σ τ → CI τ (yrD Y x).1 → τ.2.1 0 18 = (yrD Y x).2.2 → K (some (.int (iI (yrD Y x).2.1))) τ) : Call l D cA ad (d + 1) mX11_rainOfDraws [.ref 0] σ K := by
  have hP7 := hK0.s.1
  have ho := hK0.o
  have hk := hK0.k
  refine call_go (by decide) (Nat.le_of_ble_eq_true rfl) (show Go l D cA ad (d + 1) mX11_rainOfDraws 0 [.ref 0, .null] [] σ K from ?_)
  refine go_aload_n dX11_rainOfDraws_0 rfl ?_
  refine go_bipush (v := iI 100) dX11_rainOfDraws_1 (by decide) ?_
  refine go_callV (as := [_]) wX11_403 dX11_rainOfDraws_3 rfl rfl rfl rfl (Nat.le_of_ble_eq_true rfl) (ct_X11_draw (m := 100) (x := x) (by decide) hx (fun τ1 l1 e1 => ?_))
  have hR1 := l1.RO hR
  have hC1 := hC.l l1.1
  have b1 := drN_lt (drS x) (m := 100) (by decide)
  refine go_aload_n dX11_rainOfDraws_6 rfl ?_
  refine go_getI fX11_98 dX11_rainOfDraws_7 rfl ?_
  rw [hC1.2.2.2.2.2.2.2.2.2.1]
  refine go_icmp_ge (tgt := 20) dX11_rainOfDraws_10 (by decide) (fun h10 => ?_) (fun h10 => ?_)
  · rw [iI_le (by omega)] at h10
    refine go_aload_n dX11_rainOfDraws_20 rfl ?_
    refine go_bipush (v := iI 100) dX11_rainOfDraws_21 (by decide) ?_
    refine go_callV (as := [_]) wX11_403 dX11_rainOfDraws_23 rfl rfl rfl rfl (Nat.le_of_ble_eq_true rfl) (ct_X11_draw (m := 100) (x := drS x) (by decide) e1 (fun τ2 l2 e2 => ?_))
    have hR2 := l2.RO hR1
    have hC2 := hC1.l l2.1
    have b2 := drN_lt (drS (drS x)) (m := 100) (by decide)
    refine go_aload_n dX11_rainOfDraws_26 rfl ?_
    refine go_getI fX11_181 dX11_rainOfDraws_27 rfl ?_
    rw [hC2.2.2.2.2.2.2.2.2.2.2]
    refine go_icmp_ge (tgt := 72) dX11_rainOfDraws_30 (by decide) (fun h30 => ?_) (fun h30 => ?_)
    · rw [iI_le (by omega)] at h30
      refine go_iconst (v := iI 0) dX11_rainOfDraws_72 (by decide) ?_
      refine go_iret rfl rfl dX11_rainOfDraws_73 ?_
      have ey := yrD_2 (Y := Y) (x := x) (by omega) (by omega)
      have h9 := hK
      rw [ey] at h9
      exact h9 _ (l1.fc.tr l2.fc) hC2 e2
    · rw [iI_le (by omega)] at h30
      refine go_aload_n dX11_rainOfDraws_33 rfl ?_
      refine go_aload_n dX11_rainOfDraws_34 rfl ?_
      refine go_getR fX11_19 dX11_rainOfDraws_35 rfl (hR2 _ _ _ rfl) ?_
      refine go_getI fX11_269 dX11_rainOfDraws_38 rfl ?_
      rw [hC2.2.1.1]
      refine go_callV (as := [_]) wX11_403 dX11_rainOfDraws_41 rfl rfl rfl rfl (Nat.le_of_ble_eq_true rfl) (ct_X11_draw (m := nP (xs Y)) (x := drS (drS x)) (by omega) e2 (fun τ3 l3 e3 => ?_))
      have hR3 := l3.RO hR2
      have hC3 := hC2.l l3.1
      have b3 := drN_lt (drS (drS (drS x))) (m := nP (xs Y)) hp
      have h7 := wk7 hK0.s hK0.w (drN (drS (drS (drS x))) (nP (xs Y)))
      refine go_istore_n dX11_rainOfDraws_44 (Nat.le_of_ble_eq_true rfl) rfl ?_
      refine go_aload_n dX11_rainOfDraws_45 rfl ?_
      refine go_getR fX11_58 dX11_rainOfDraws_46 rfl (hR3 _ _ _ rfl) ?_
      refine go_getR fX11_155 dX11_rainOfDraws_49 rfl (hR3 _ _ _ rfl) ?_
      refine go_iload_n dX11_rainOfDraws_52 rfl ?_
      refine go_iald dX11_rainOfDraws_53 rfl (vp_iI (by omega)) ?_
      rw [cl_n _ (by omega), (hC3.2.2.1.1 _ (by omega)).2.2]
      refine go_bipush (v := iI 9) dX11_rainOfDraws_54 (by decide) ?_
      refine go_icmp_ge (tgt := 72) dX11_rainOfDraws_56 (by decide) (fun h56 => ?_) (fun h56 => ?_)
      · rw [iI_le (by omega)] at h56
        refine go_iconst (v := iI 0) dX11_rainOfDraws_72 (by decide) ?_
        refine go_iret rfl rfl dX11_rainOfDraws_73 ?_
        have ey := yrD_4 (Y := Y) (x := x) (by omega) (by omega) (by omega)
        have h9 := hK
        rw [ey] at h9
        exact h9 _ ((l1.fc.tr l2.fc).tr l3.fc) hC3 e3
      · rw [iI_le (by omega)] at h56
        refine go_aload_n dX11_rainOfDraws_59 rfl ?_
        refine go_getR fX11_58 dX11_rainOfDraws_60 rfl (hR3 _ _ _ rfl) ?_
        refine go_getR fX11_155 dX11_rainOfDraws_63 rfl (hR3 _ _ _ rfl) ?_
        refine go_iload_n dX11_rainOfDraws_66 rfl ?_
        refine go_dup2 dX11_rainOfDraws_67 rfl rfl ?_
        refine go_iald dX11_rainOfDraws_68 rfl (vp_iI (by omega)) ?_
        rw [cl_n _ (by omega)]
        rw [show τ3.1 90 (drN (drS (drS (drS x))) (nP (xs Y))) = iI (pk (xw Y) (drN (drS (drS (drS x))) (nP (xs Y)))) from (hC3.2.2.1.1 _ (by omega)).2.2]
        refine go_iconst (v := iI 1) dX11_rainOfDraws_69 (by decide) ?_
        refine go_iadd dX11_rainOfDraws_70 ?_
        rw [iI_add]
        refine go_iast dX11_rainOfDraws_71 rfl (vp_iI (by omega)) ?_
        refine go_iconst (v := iI 0) dX11_rainOfDraws_72 (by decide) ?_
        refine go_iret rfl rfl dX11_rainOfDraws_73 ?_
        rw [cl_n _ (by omega)]
        have ey := yrD_3 (Y := Y) (x := x) (by omega) (by omega) (by omega)
        have h9 := hK
        rw [ey] at h9
        exact h9 _ (((l1.fc.tr l2.fc).tr l3.fc).sI (by decide)) (CI_set hC3 hK0 (Fr.rf.sI (by decide) (by decide)) (by unfold stkF; rw [if_pos rfl]; exact WC_pk hC3.2.2.1) stkF_dy) e3
  · rw [iI_le (by omega)] at h10
    refine go_aload_n dX11_rainOfDraws_13 rfl ?_
    refine go_bipush (v := iI 10) dX11_rainOfDraws_14 (by decide) ?_
    refine go_callV (as := [_]) wX11_403 dX11_rainOfDraws_16 rfl rfl rfl rfl (Nat.le_of_ble_eq_true rfl) (ct_X11_draw (m := 10) (x := drS x) (by decide) e1 (fun τ2 l2 e2 => ?_))
    refine go_iret rfl rfl dX11_rainOfDraws_19 ?_
    have ey := yrD_1 (Y := Y) (x := x) (by omega)
    have h9 := hK
    rw [ey] at h9
    exact h9 _ (l1.fc.tr l2.fc) (hC1.l l2.1) e2

theorem yc33 {l : Launch} {D : va_G} {cA ad : Nat → Nat} {d : Nat} {σ : AS} {K : Option Value → AS → Prop} {X1 : XS} {sd : Int64} {n : Nat} (hn : n ≤ 9999) (hR : RO σ) (hK : ∀ τ, FC σ τ → CI τ X1 → K (some (.int (iI (dy (xw X1))))) τ) : ∀ (r i : Nat) (Y : XS) (τ : AS) (x : Int64), r + i = n → FC σ τ → CI τ Y → XK Y → 0 < nP (xs Y) → dy (xw Y) + r ≤ 9999 → τ.2.1 0 18 = x → yrX r x Y = X1 → Go l D cA ad (d + 6) mX11_years 33 [.ref 0, .int (iI n), .long sd, .null, .int (iI i)] [] τ K := by
  intro r
  induction r using Nat.strongRecOn with
  | ind r ih =>
  intro i Y τ x hri hf hCY hKY hp hd hx hY
  have hR1 := hf.RO hR
  refine go_iload dX11_years_33 rfl ?_
  refine go_iload_n dX11_years_35 rfl ?_
  refine go_icmp_ge (tgt := 78) dX11_years_36 (by decide) (fun h36 => ?_) (fun h36 => ?_)
  · rw [iI_le (by omega)] at h36
    refine go_aload_n dX11_years_78 rfl ?_
    refine go_getR fX11_58 dX11_years_79 rfl (hR1 _ _ _ rfl) ?_
    refine go_getI fX11_192 dX11_years_82 rfl ?_
    rw [hCY.2.2.1.2.2.2]
    refine go_iret rfl rfl dX11_years_85 ?_
    obtain rfl : r = 0 := by omega
    have e1 : Y = X1 := hY
    subst e1
    exact hK τ hf hCY
  · rw [iI_le (by omega)] at h36
    refine go_aload_n dX11_years_39 rfl ?_
    refine go_getR fX11_72 dX11_years_40 rfl (hR1 _ _ _ rfl) ?_
    refine go_aload_n dX11_years_43 rfl ?_
    refine go_getR fX11_58 dX11_years_44 rfl (hR1 _ _ _ rfl) ?_
    refine go_aload_n dX11_years_47 rfl ?_
    refine go_getR fX11_65 dX11_years_48 rfl (hR1 _ _ _ rfl) ?_
    refine go_callV (as := [_, _]) wX11_188 dX11_years_51 rfl rfl rfl rfl (Nat.le_of_ble_eq_true rfl) (ct_remC2 hR1 hKY hCY (fun ρ fc e2 hC1 => ?_))
    refine go_aload_n dX11_years_54 rfl ?_
    refine go_aload_n dX11_years_55 rfl ?_
    refine go_getR fX11_19 dX11_years_56 rfl (fc.RO hR1 _ _ _ rfl) ?_
    refine go_getR fX11_138 dX11_years_59 rfl (fc.RO hR1 _ _ _ rfl) ?_
    refine go_iconst (v := iI 0) dX11_years_62 (by decide) ?_
    refine go_iald dX11_years_63 rfl (vp_iI (by decide)) ?_
    rw [cl_0, hC1.2.1.2.2.1 0 (by decide)]
    refine go_aload_n dX11_years_64 rfl ?_
    refine go_callV (as := []) wX11_203 dX11_years_65 rfl rfl rfl rfl (Nat.le_of_ble_eq_true rfl) (ct_X11_rainOfDraws (Y := remX Y) (x := x) (fc.RO hR1) (XK_rem hKY) hC1 hp (by rw [e2]; exact hx) (fun π fd hC2 hx2 => ?_))
    refine go_iadd dX11_years_68 ?_
    have hy := yrD_ok (x := x) (XK_rem hKY) (Hd_rem Y) hp
    have hs9 := sk09 hKY
    rw [show skv (xs (remX Y)) 0 = skv (xs Y) 0 from rfl, iI_add]
    refine go_callV (as := [_]) wX11_206 dX11_years_69 rfl rfl rfl rfl (Nat.le_of_ble_eq_true rfl) (ct_dayC2 (X := (yrD (remX Y) x).1) (fd.RO (fc.RO hR1)) hy.1 hC2 hy.2.1 (by omega) (fun ψ fe e3 hC3 => ?_))
    refine go_iincI dX11_years_72 rfl (Nat.le_of_ble_eq_true rfl) rfl ?_
    refine go_goto (tgt := 33) dX11_years_75 (by decide) ?_
    obtain ⟨r, rfl⟩ : ∃ q, r = q + 1 := ⟨r - 1, by omega⟩
    have hz := yr1_ok (x := x) hKY hp (by omega)
    simp only [List.set, iI_add]
    exact ih r (by omega) (i + 1) _ _ _ (by omega) (((hf.tr fc).tr fd).tr fe) hC3 hz.1 (by rw [hz.2.2]; exact hp) (by rw [hz.2.1]; omega) (by rw [e3]; exact hx2) hY
theorem ct_X11_years {l : Launch} {D : va_G} {cA ad : Nat → Nat} {d : Nat} {σ : AS} {K : Option Value → AS → Prop} {X : XS} {a : Int} {sd : Int64} (hR : RO σ) (hK0 : XK X) (hC : CI σ X) (ha32 : -2147483648 ≤ a ∧ a < 2147483648) (hK : ∀ τ, FC σ τ → CI τ (yearsX X a sd) → K (some (.int (iI (daysA X a)))) τ) : Call l D cA ad (d + 6) mX11_years [.ref 0, .int (iI a), .long sd] σ K := by
  have hP7 := hK0.s.1
  have hQ9 := hK0.s.2.1
  refine call_go (by decide) (Nat.le_of_ble_eq_true rfl) (show Go l D cA ad (d + 6) mX11_years 0 [.ref 0, .int (iI a), .long sd, .null, .null] [] σ K from ?_)
  refine go_iload_n dX11_years_0 rfl ?_
  refine go_bipush (v := iI 60) dX11_years_1 (by decide) ?_
  refine go_icmp_gt (tgt := 23) dX11_years_3 (by decide) (fun h3 => ?_) (fun h3 => ?_)
  · rw [iI_lt (by omega)] at h3
    refine go_iconst (v := iI (-1)) dX11_years_23 (by decide) ?_
    refine go_iret rfl rfl dX11_years_24 ?_
    have e1 : yearsX X a sd = X := by unfold yearsX; rw [if_neg (by omega)]
    have e2 : daysA X a = -1 := by unfold daysA; rw [if_neg (by omega)]
    rw [e1, e2] at hK
    exact hK σ FC.rf hC
  · rw [iI_lt (by omega)] at h3
    refine go_aload_n dX11_years_6 rfl ?_
    refine go_getR fX11_94 dX11_years_7 rfl (hR _ _ _ rfl) ?_
    refine go_iconst (v := iI 2) dX11_years_10 (by decide) ?_
    refine go_iload_n dX11_years_11 rfl ?_
    refine go_iconst (v := iI 0) dX11_years_12 (by decide) ?_
    refine go_aload_n dX11_years_13 rfl ?_
    refine go_getR fX11_58 dX11_years_14 rfl (hR _ _ _ rfl) ?_
    refine go_callV (as := [_, _, _, _]) wX11_195 dX11_years_17 rfl rfl rfl rfl (Nat.le_of_ble_eq_true rfl) (ct_canBe2 hR hC.2.1 hK0.s WB_87 hC.2.2.1 hK0.w ha32 (fun hc => ?_) (fun hc => ?_))
    · refine go_if_ne (tgt := 25) dX11_years_20 (by decide) (fun h20 => ?_) (fun h20 => ?_)
      · refine go_aload_n dX11_years_25 rfl ?_
        refine go_lload_n dX11_years_26 rfl ?_
        refine go_putL fX11_199 rfl dX11_years_27 rfl rfl rfl ?_
        refine go_iconst (v := iI 0) dX11_years_30 (by decide) ?_
        refine go_istore dX11_years_31 (Nat.le_of_ble_eq_true rfl) rfl ?_
        obtain ⟨n, rfl⟩ : ∃ n : Nat, a = n := ⟨a.toNat, by omega⟩
        have h8 := (yrX_ok n sd X hK0 hc.1 (by omega)).2
        have e1 : yearsX X n sd = yrX n sd X := by unfold yearsX; rw [if_pos ⟨by omega, hc⟩]; rfl
        have e2 : daysA X n = (dy (xw (yrX n sd X)) : Int) := by unfold daysA; rw [if_pos ⟨by omega, hc⟩, h8]; omega
        rw [e1, e2] at hK
        simp only [List.set]
        exact yc33 (X1 := yrX n sd X) (by omega) hR hK n 0 X _ sd (by omega) LF.set.fc (hC.l rfl) hK0 hc.1 (by omega) sL_at rfl
      · exact absurd h20 (by decide)
    · refine go_if_ne (tgt := 25) dX11_years_20 (by decide) (fun h20 => ?_) (fun h20 => ?_)
      · exact absurd h20 (by decide)
      · refine go_iconst (v := iI (-1)) dX11_years_23 (by decide) ?_
        refine go_iret rfl rfl dX11_years_24 ?_
        have e1 : yearsX X a sd = X := by unfold yearsX; rw [if_neg (fun q => hc q.2)]
        have e2 : daysA X a = -1 := by unfold daysA; rw [if_neg (fun q => hc q.2)]
        rw [e1, e2] at hK
        exact hK σ FC.rf hC

