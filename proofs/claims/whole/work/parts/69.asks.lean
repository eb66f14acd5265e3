/-! pipe, darkest, rent, walls, dries, largest -/
def dkF (s : PS) (w : WT) : Nat → Int × Int
  | 0 => (-1, 0)
  | i + 1 => if (dkF s w i).2 < wa w i - pd s i 6 then ((i : Int), wa w i - pd s i 6) else dkF s w i
theorem dkF_bd {s : PS} {w : WT} (hS : TwK s) (hw : WK s w) : ∀ i, i ≤ nP s → -1 ≤ (dkF s w i).1 ∧ (dkF s w i).1 < i ∧ 0 ≤ (dkF s w i).2 ∧ (dkF s w i).2 ≤ 99
  | 0, _ => ⟨by show (-1 : Int) ≤ -1; decide, by show (-1 : Int) < 0; decide, by show (0 : Int) ≤ 0; decide, by show (0 : Int) ≤ 99; decide⟩
  | i + 1, h => by
    have ih := dkF_bd hS hw i (by omega)
    have h7 := wk7 hS hw i
    have hpi := hS.2.2.2.1 i (by omega)
    unfold PdK at hpi
    unfold dkF
    split
    · refine ⟨?_, ?_, ?_, ?_⟩ <;> dsimp only <;> omega
    · omega
def darkA (X : XS) : Int := (dkF (xs X) (xw X) (nP (xs X))).1
def rnF (s : PS) (p : Nat) : Nat → Int
  | 0 => 0
  | k + 1 => if pe s k 0 = p ∨ pe s k 1 = p then rnF s p k + 5 else rnF s p k
theorem rnF_t {s : PS} {p k : Nat} (h : pe s k 0 = p ∨ pe s k 1 = p) : rnF s p (k + 1) = rnF s p k + 5 := if_pos h
theorem rnF_f {s : PS} {p k : Nat} (h : ¬ (pe s k 0 = p ∨ pe s k 1 = p)) : rnF s p (k + 1) = rnF s p k := if_neg h
def rentA (X : XS) (p : Int) : Int := if 0 ≤ p ∧ p < nP (xs X) then wa (xw X) p.toNat + rnF (xs X) p.toNat (nQ (xs X)) - (if wa (xw X) p.toNat < pd (xs X) p.toNat 3 then 10 else 0) else -1000000
theorem bt_lo {m n k : Nat} (h : m < 2 ^ n) (hk : n ≤ k) : m / 2 ^ k % 2 = 0 := by
  rw [Nat.div_eq_of_lt (Nat.lt_of_lt_of_le h (Nat.pow_le_pow_right (by decide) hk))]
theorem btF_bit (P : Nat → Bool) : ∀ n, n ≤ 9 → ∀ k, k < 9 → btF P n / 2 ^ k % 2 = if k < n ∧ P k = true then 1 else 0
  | 0, _, k, _ => by rw [if_neg (by omega)]; show 0 / 2 ^ k % 2 = 0; rw [Nat.zero_div]
  | n + 1, h, k, hk => by
    have ih := btF_bit P n (by omega) k hk
    cases hp : P n with
    | true =>
      rw [btF_t hp, bit_or _ (btF_512 P n (by omega)) n (by omega) k hk, ih]
      by_cases c : k = n
      · rw [if_pos c, if_pos ⟨by omega, by rw [c]; exact hp⟩]
      · rw [if_neg c]
        by_cases c2 : k < n ∧ P k = true
        · rw [if_pos c2, if_pos ⟨by omega, c2.2⟩]
        · rw [if_neg c2, if_neg (fun q => c2 ⟨by omega, q.2⟩)]
    | false =>
      rw [btF_f hp, ih]
      by_cases c2 : k < n ∧ P k = true
      · rw [if_pos c2, if_pos ⟨by omega, c2.2⟩]
      · rw [if_neg c2, if_neg]
        rintro ⟨q1, q2⟩
        refine c2 ⟨?_, q2⟩
        by_cases c : k = n
        · rw [c, hp] at q2; cases q2
        · omega
def ab (a : Int) : Int := if 0 ≤ a then a else -a
theorem iI_ab {a : Int} (h : -2147483648 < a ∧ a < 2147483648) : (if 0 ≤ iI a then iI a else 0 - iI a) = iI (ab a) := by
  unfold ab
  by_cases c : 0 ≤ a
  · rw [if_pos c, if_pos ((iI_0le (by omega)).mpr c)]
  · rw [if_neg c, if_neg (fun q => c ((iI_0le (by omega)).mp q)), show (0 : Int32) - iI a = iI (-a) by rw [iI_0, iI_sub]; congr 1; omega]
theorem ab_or (a : Int) : (0 ≤ a ∧ ab a = a) ∨ (a < 0 ∧ ab a = -a) := by unfold ab; split <;> omega
def wlP (s : PS) (w : WT) (i : Nat) : Bool := decide (pd s i 5 < ab (wa w i - wa w (i + 1)))
def wallsA (X : XS) : Int := if 0 < nP (xs X) then (btF (wlP (xs X) (xw X)) (nP (xs X) - 1) : Int) else -1
def dryF (s : PS) (hv : Option (List CL)) (p : Nat) : Nat → Nat → WT → Int
  | 0, _, _ => -1
  | n + 1, k, w => if wa w p = 0 then (k : Int) else dryF s hv p n (k + 1) (dayF s hv (skv s 0) w)
def driesA (X : XS) (p : Int) : Int := if 0 ≤ p ∧ p < nP (xs X) then dryF (xs X) (xv X) p.toNat 100 0 (xw X) else -1
def pfF (X : XS) (k : Nat) : Int := if bitb (opn (xw X)) k = true then flF (xs X) (xv X) (xw X) k else 0
def lsF (X : XS) : Nat → Int × Int
  | 0 => (-1, 0)
  | i + 1 => if (lsF X i).2 < pfF X i then ((i : Int), pfF X i) else lsF X i
theorem pfF_bd {X : XS} (hK : XK X) {k : Nat} (hk : k < nQ (xs X)) : 0 ≤ pfF X k ∧ pfF X k ≤ 9 := by
  have := flF_bd (hv := xv X) hK.s hK.w hk
  unfold pfF
  split <;> omega
theorem lsF_bd {X : XS} (hK : XK X) : ∀ i, i ≤ nQ (xs X) → -1 ≤ (lsF X i).1 ∧ (lsF X i).1 < i ∧ 0 ≤ (lsF X i).2 ∧ (lsF X i).2 ≤ 9
  | 0, _ => ⟨by show (-1 : Int) ≤ -1; decide, by show (-1 : Int) < 0; decide, by show (0 : Int) ≤ 0; decide, by show (0 : Int) ≤ 9; decide⟩
  | i + 1, h => by
    have ih := lsF_bd hK i (by omega)
    have h7 := pfF_bd hK (k := i) (by omega)
    unfold lsF
    split
    · refine ⟨?_, ?_, ?_, ?_⟩ <;> dsimp only <;> omega
    · omega
def largA (X : XS) : Int := (lsF X (nQ (xs X))).1
theorem bitb_0 {m k : Nat} (h : bitb m k = false) : m / 2 ^ k % 2 = 0 := by
  rcases bit_01 m k with q | q
  · exact q
  · unfold bitb at h; rw [q] at h; cases h
theorem bitb_1 {m k : Nat} (h : bitb m k = true) : m / 2 ^ k % 2 = 1 := by unfold bitb at h; simpa using h
theorem nQ_0 {s : PS} (h : TwK s) (h0 : nP s = 0) : nQ s = 0 := by
  by_cases c : nQ s = 0
  · exact c
  · have := h.2.2.2.2 0 (by omega)
    unfold PpK at this
    omega
theorem ct_X11_pipe {l : Launch} {D : va_G} {cA ad : Nat → Nat} {d : Nat} {σ : AS} {K : Option Value → AS → Prop} {X : XS} {k j : Int} (hR : RO σ) (hK0 : XK X) (hC : CI σ X) (hk32 : -2147483648 ≤ k ∧ k < 2147483648) (hj32 : -2147483648 ≤ j ∧ j < 2147483648) (hK : ∀ τ, QF σ τ → K (some (.int (iI (pipeA X k j)))) τ) : Call l D cA ad (d + 3) mX11_pipe [.ref 0, .int (iI k), .int (iI j)] σ K := by
  have hP7 := hK0.s.1
  have hQ9 := hK0.s.2.1
  refine call_go (by decide) (Nat.le_of_ble_eq_true rfl) (show Go l D cA ad (d + 3) mX11_pipe 0 [.ref 0, .int (iI k), .int (iI j)] [] σ K from ?_)
  refine go_aload_n dX11_pipe_0 rfl ?_
  refine go_getR fX11_19 dX11_pipe_1 rfl (hR _ _ _ rfl) ?_
  refine go_iload_n dX11_pipe_4 rfl ?_
  refine go_callV (as := [_]) wX11_162 dX11_pipe_5 rfl rfl rfl rfl (Nat.le_of_ble_eq_true rfl) (ct_hasPipe2 hk32 hC.2.1 hK0.s (fun q hqe hql => ?_) (fun hqx => ?_))
  · refine go_if_eq (tgt := 20) dX11_pipe_8 (by decide) (fun h8 => ?_) (fun h8 => ?_)
    · exact absurd h8 (by decide)
    · refine go_iload_n dX11_pipe_11 rfl ?_
      refine go_if_lt (tgt := 20) dX11_pipe_12 (by decide) (fun h12 => ?_) (fun h12 => ?_)
      · rw [iI_lt0 (by omega)] at h12
        refine go_iconst (v := iI (-1)) dX11_pipe_20 (by decide) ?_
        refine go_iret rfl rfl dX11_pipe_21 ?_
        have e : pipeA X k j = -1 := by unfold pipeA; rw [if_neg (by omega)]
        have h9 := hK σ QF.rf
        rw [e] at h9
        exact h9
      · rw [iI_lt0 (by omega)] at h12
        refine go_iload_n dX11_pipe_15 rfl ?_
        refine go_iconst (v := iI 5) dX11_pipe_16 (by decide) ?_
        refine go_icmp_le (tgt := 22) dX11_pipe_17 (by decide) (fun h17 => ?_) (fun h17 => ?_)
        · rw [iI_le (by omega)] at h17
          subst hqe
          refine go_iload_n dX11_pipe_22 rfl ?_
          by_cases h4 : j = 4
          · subst h4
            refine go_look (off := 25) (tgt := 48) dX11_pipe_23 (by decide) (by decide) (by decide) ?_
            refine go_aload_n dX11_pipe_48 rfl ?_
            refine go_getR fX11_58 dX11_pipe_49 rfl (hR _ _ _ rfl) ?_
            refine go_iload_n dX11_pipe_52 rfl ?_
            refine go_callV (as := [_]) wX11_165 dX11_pipe_53 rfl rfl rfl rfl (Nat.le_of_ble_eq_true rfl) (ct_X10_isOpen WB_87 hC.2.2.1 (pw512 hK0.s hK0.w) (by omega) (fun hb => ?_) (fun hb => ?_))
            · refine go_if_eq (tgt := 63) dX11_pipe_56 (by decide) (fun h56 => ?_) (fun h56 => ?_)
              · refine go_iconst (v := iI 0) dX11_pipe_63 (by decide) ?_
                refine go_iret rfl rfl dX11_pipe_64 ?_
                have e : pipeA X q 4 = ((opn (xw X) / 2 ^ q % 2 : Nat) : Int) := by unfold pipeA; rw [if_pos (by omega), if_pos rfl, Int.toNat_natCast]
                have h9 := hK σ QF.rf
                rw [e] at h9
                have hb2 := bitb_0 hb
                rw [hb2] at h9
                exact h9
              · exact absurd h56 (by decide)
            · refine go_if_eq (tgt := 63) dX11_pipe_56 (by decide) (fun h56 => ?_) (fun h56 => ?_)
              · exact absurd h56 (by decide)
              · refine go_iconst (v := iI 1) dX11_pipe_59 (by decide) ?_
                refine go_goto (tgt := 64) dX11_pipe_60 (by decide) ?_
                refine go_iret rfl rfl dX11_pipe_64 ?_
                have e : pipeA X q 4 = ((opn (xw X) / 2 ^ q % 2 : Nat) : Int) := by unfold pipeA; rw [if_pos (by omega), if_pos rfl, Int.toNat_natCast]
                have h9 := hK σ QF.rf
                rw [e] at h9
                have hb2 := bitb_1 hb
                rw [hb2] at h9
                exact h9
          · by_cases h5 : j = 5
            · subst h5
              refine go_look (off := 42) (tgt := 65) dX11_pipe_23 (by decide) (by decide) (by decide) ?_
              refine go_aload_n dX11_pipe_65 rfl ?_
              refine go_getR fX11_40 dX11_pipe_66 rfl (hR _ _ _ rfl) ?_
              refine go_iload_n dX11_pipe_69 rfl ?_
              refine go_aload_n dX11_pipe_70 rfl ?_
              refine go_getR fX11_58 dX11_pipe_71 rfl (hR _ _ _ rfl) ?_
              refine go_callV (as := [_, _]) wX11_168 dX11_pipe_74 rfl rfl rfl rfl (Nat.le_of_ble_eq_true rfl) (ct_X2_flowThrough hR hC.2.1 hK0.s WB_87 hC.2.2.1 hK0.w hK0.L hC.2.2.2.2.2.2.2.1 hql (fun τ fr => ?_))
              refine go_iret rfl rfl dX11_pipe_77 ?_
              have e : pipeA X q 5 = flF (xs X) (xv X) (xw X) q := by unfold pipeA; rw [if_pos (by omega), if_neg (by decide), if_pos rfl, Int.toNat_natCast]
              have h9 := hK τ (QF.w (FrW.of2 fr))
              rw [e] at h9
              exact h9
            · refine go_look (off := 55) (tgt := 78) dX11_pipe_23 (by decide) (by rw [iI_toInt (by omega) (by omega)]; show Op.lookupswitch.offset [(4, 25), (5, 42)] 55 j = 55; rw [Op.lookupswitch.offset_cons, if_neg (by omega), Op.lookupswitch.offset_cons, if_neg (by omega)]; rfl) (by decide) ?_
              refine go_aload_n dX11_pipe_78 rfl ?_
              refine go_getR fX11_19 dX11_pipe_79 rfl (hR _ _ _ rfl) ?_
              refine go_getR fX11_172 dX11_pipe_82 rfl (hR _ _ _ rfl) ?_
              refine go_iload_n dX11_pipe_85 rfl ?_
              refine go_aald dX11_pipe_86 rfl (by decide) (vp_iI (by omega)) (by rw [cl_n _ (by omega)]; exact hR _ _ _ (r33 _ (by omega)).2.2.1) ?_
              refine go_iload_n dX11_pipe_87 rfl ?_
              refine go_iald dX11_pipe_88 (r33 q (by omega)).2.2.2 (vp_iI (by omega)) ?_
              refine go_iret rfl rfl dX11_pipe_89 ?_
              obtain ⟨i, rfl⟩ : ∃ i : Nat, j = i := ⟨j.toNat, by omega⟩
              rw [cl_n _ (by omega), hC.2.1.2.2.2.2 q i hql (by omega)]
              have e : pipeA X q i = pp (xs X) q i := by unfold pipeA; rw [if_pos (by omega), if_neg (by omega), if_neg (by omega), Int.toNat_natCast, Int.toNat_natCast]
              have h9 := hK σ QF.rf
              rw [e] at h9
              exact h9
        · rw [iI_le (by omega)] at h17
          refine go_iconst (v := iI (-1)) dX11_pipe_20 (by decide) ?_
          refine go_iret rfl rfl dX11_pipe_21 ?_
          have e : pipeA X k j = -1 := by unfold pipeA; rw [if_neg (by omega)]
          have h9 := hK σ QF.rf
          rw [e] at h9
          exact h9
  · refine go_if_eq (tgt := 20) dX11_pipe_8 (by decide) (fun h8 => ?_) (fun h8 => ?_)
    · refine go_iconst (v := iI (-1)) dX11_pipe_20 (by decide) ?_
      refine go_iret rfl rfl dX11_pipe_21 ?_
      have e : pipeA X k j = -1 := by unfold pipeA; rw [if_neg (by omega)]
      have h9 := hK σ QF.rf
      rw [e] at h9
      exact h9
    · exact absurd h8 (by decide)

theorem ct_X12_pipe {l : Launch} {D : va_G} {cA ad : Nat → Nat} {d : Nat} {σ : AS} {K : Option Value → AS → Prop} {X : XS} {k j : Int} (hR : RO σ) (hK0 : XK X) (hC : MI σ X) (hk32 : -2147483648 ≤ k ∧ k < 2147483648) (hj32 : -2147483648 ≤ j ∧ j < 2147483648) (hK : ∀ τ, DF (xL X) σ τ → K (some (.int (iI (pipeA X k j)))) τ) : Call l D cA ad (d + 34) mX12_pipe [.ref 111, .int (iI k), .int (iI j)] σ K := by
  have hP7 := hK0.s.1
  have hQ9 := hK0.s.2.1
  refine call_go (by decide) (Nat.le_of_ble_eq_true rfl) (show Go l D cA ad (d + 34) mX12_pipe 0 [.ref 111, .int (iI k), .int (iI j)] [] σ K from ?_)
  refine go_aload_n dX12_pipe_0 rfl ?_
  refine go_iconst (v := iI 0) dX12_pipe_1 (by decide) ?_
  refine go_putI fX12_96 rfl dX12_pipe_2 rfl rfl rfl ?_
  have hq : DF (xL X) σ (sI σ 111 (upd (σ.1 111) 0 (iI 0))) := DF_f0 DF.rf
  have hR0 := hq.RO hR
  have hC0 := hC.q hK0 hq
  generalize sI σ 111 (upd (σ.1 111) 0 (iI 0)) = τ at hq hR0 hC0 ⊢
  refine go_aload_n dX12_pipe_5 rfl ?_
  refine go_iload_n dX12_pipe_6 rfl ?_
  refine go_callV (as := [_]) wX12_369 dX12_pipe_7 rfl rfl rfl rfl (Nat.le_of_ble_eq_true rfl) (ct_isPipe2 hk32 hC0.2.1 hK0.s (fun q hqe hql => ?_) (fun hqx => ?_))
  · refine go_if_eq (tgt := 25) dX12_pipe_10 (by decide) (fun h10 => ?_) (fun h10 => ?_)
    · exact absurd h10 (by decide)
    · refine go_iload_n dX12_pipe_13 rfl ?_
      refine go_i2l dX12_pipe_14 ?_
      rw [i2l_iI (by omega)]
      refine go_lconst (v := 0) dX12_pipe_15 (by decide) ?_
      refine go_ldc2 lX12_338 dX12_pipe_16 ?_
      refine go_callS (as := [_, _, _]) wX12_217 dX12_pipe_19 rfl rfl (Nat.le_of_ble_eq_true rfl) (ct_isIn2 (x := 0) (y := 5) (by decide) (by decide) (by omega) (fun hi => ?_) (fun hi => ?_))
      · refine go_if_ne (tgt := 27) dX12_pipe_22 (by decide) (fun h22 => ?_) (fun h22 => ?_)
        · subst hqe
          refine go_iload_n dX12_pipe_27 rfl ?_
          refine go_iconst (v := iI 5) dX12_pipe_28 (by decide) ?_
          refine go_icmp_ne (tgt := 42) dX12_pipe_29 (by decide) (fun h29 => ?_) (fun h29 => ?_)
          · rw [iI_eq (by omega)] at h29
            refine go_iload_n dX12_pipe_42 rfl ?_
            refine go_iconst (v := iI 4) dX12_pipe_43 (by decide) ?_
            refine go_icmp_ne (tgt := 61) dX12_pipe_44 (by decide) (fun h44 => ?_) (fun h44 => ?_)
            · rw [iI_eq (by omega)] at h44
              refine go_aload_n dX12_pipe_61 rfl ?_
              refine go_getR fX12_49 dX12_pipe_62 rfl (hR0 _ _ _ rfl) ?_
              refine go_iconst (v := iI 5) dX12_pipe_65 (by decide) ?_
              refine go_iload_n dX12_pipe_66 rfl ?_
              refine go_imul dX12_pipe_67 ?_
              refine go_iload_n dX12_pipe_68 rfl ?_
              refine go_iadd dX12_pipe_69 ?_
              rw [iI_mul, iI_add]
              refine go_iald dX12_pipe_70 rfl (vp_iI (by omega)) ?_
              refine go_iret rfl rfl dX12_pipe_71 ?_
              obtain ⟨i, rfl⟩ : ∃ i : Nat, j = i := ⟨j.toNat, by omega⟩
              rw [iI_cl (by omega), show (5 * (q : Int) + (i : Int)).toNat = 5 * q + i by omega, hC0.2.1.2.2.2.2 q i hql (by omega)]
              have e : pipeA X q i = pp (xs X) q i := by unfold pipeA; rw [if_pos (by omega), if_neg (by omega), if_neg (by omega), Int.toNat_natCast, Int.toNat_natCast]
              have h9 := hK τ hq
              rw [e] at h9
              exact h9
            · rw [iI_eq (by omega)] at h44
              refine go_aload_n dX12_pipe_47 rfl ?_
              refine go_getR fX12_61 dX12_pipe_48 rfl (hR0 _ _ _ rfl) ?_
              refine go_bipush (v := iI 21) dX12_pipe_51 (by decide) ?_
              refine go_iald dX12_pipe_53 rfl (vp_iI (by decide)) ?_
              rw [show (iI 21).toNatClampNeg = 21 by decide, hC0.2.2.1.1.2.1]
              refine go_iload_n dX12_pipe_54 rfl ?_
              refine go_ishr dX12_pipe_55 ?_
              refine go_iconst (v := iI 1) dX12_pipe_56 (by decide) ?_
              refine go_iand dX12_pipe_57 ?_
              rw [b_get _ (pw512 hK0.s hK0.w) q (by omega)]
              refine go_goto (tgt := 71) dX12_pipe_58 (by decide) ?_
              refine go_iret rfl rfl dX12_pipe_71 ?_
              subst h44
              have e : pipeA X q 4 = ((opn (xw X) / 2 ^ q % 2 : Nat) : Int) := by unfold pipeA; rw [if_pos (by omega), if_pos rfl, Int.toNat_natCast]
              have h9 := hK τ hq
              rw [e] at h9
              exact h9
          · rw [iI_eq (by omega)] at h29
            refine go_aload_n dX12_pipe_32 rfl ?_
            refine go_aload_n dX12_pipe_33 rfl ?_
            refine go_getR fX12_61 dX12_pipe_34 rfl (hR0 _ _ _ rfl) ?_
            refine go_iload_n dX12_pipe_37 rfl ?_
            refine go_callV (as := [_, _]) wX12_342 dX12_pipe_38 rfl rfl rfl rfl (Nat.le_of_ble_eq_true rfl) (ct_X12_flowOf hR0 hC0.2.1 hK0.s rfl (WM_R.mpr hC0.2.2.1.1) hK0.w (by decide) (by decide) (by decide) hK0.L hC0.2.2.2.2.2.2.1 hC0.2.2.2.2.2.2.2.1 hC0.2.2.2.2.2.2.2.2.1 hql (fun ρ fr h1 h2 => ?_))
            refine go_iret rfl rfl dX12_pipe_41 ?_
            subst h29
            have e : pipeA X q 5 = flF (xs X) (xv X) (xw X) q := by unfold pipeA; rw [if_pos (by omega), if_neg (by decide), if_pos rfl, Int.toNat_natCast]
            have h9 := hK ρ (hq.tr (DF.n fr.to h1 h2))
            rw [e] at h9
            exact h9
        · exact absurd h22 (by decide)
      · refine go_if_ne (tgt := 27) dX12_pipe_22 (by decide) (fun h22 => ?_) (fun h22 => ?_)
        · exact absurd h22 (by decide)
        · refine go_iconst (v := iI (-1)) dX12_pipe_25 (by decide) ?_
          refine go_iret rfl rfl dX12_pipe_26 ?_
          have e : pipeA X k j = -1 := by unfold pipeA; rw [if_neg (by omega)]
          have h9 := hK τ hq
          rw [e] at h9
          exact h9
  · refine go_if_eq (tgt := 25) dX12_pipe_10 (by decide) (fun h10 => ?_) (fun h10 => ?_)
    · refine go_iconst (v := iI (-1)) dX12_pipe_25 (by decide) ?_
      refine go_iret rfl rfl dX12_pipe_26 ?_
      have e : pipeA X k j = -1 := by unfold pipeA; rw [if_neg (by omega)]
      have h9 := hK τ hq
      rw [e] at h9
      exact h9
    · exact absurd h10 (by decide)

theorem dk6 {l : Launch} {D : va_G} {cA ad : Nat → Nat} {d : Nat} {σ : AS} {K : Option Value → AS → Prop} {s : PS} {w : WT} (hR : RO σ) (hT : TwC σ s) (hS : TwK s) (hW : WC σ 87 w) (hw : WK s w) (hK : K (some (.int (iI (dkF s w (nP s)).1))) σ) : ∀ i : Nat, i ≤ nP s → ∀ v4 : Value, Go l D cA ad d mX6_darkestPond 6 [.ref 105, .int (iI (dkF s w i).1), .int (iI (dkF s w i).2), .int (iI i), v4] [] σ K := by
  have hP7 := hS.1
  refine up_loop (P := fun i : Nat => ∀ v4 : Value, Go l D cA ad d mX6_darkestPond 6 [.ref 105, .int (iI (dkF s w i).1), .int (iI (dkF s w i).2), .int (iI i), v4] [] σ K) (fun v4 => ?_) (fun i hi ih v4 => ?_)
  · refine go_iload_n dX6_darkestPond_6 rfl ?_
    refine go_aload_n dX6_darkestPond_7 rfl ?_
    refine go_getR fX6_22 dX6_darkestPond_8 rfl (hR _ _ _ rfl) ?_
    refine go_getI fX6_119 dX6_darkestPond_11 rfl ?_
    refine go_icmp_ge (tgt := 58) dX6_darkestPond_14 (by decide) (fun h14 => ?_) (fun h14 => ?_)
    · refine go_iload_n dX6_darkestPond_58 rfl ?_
      refine go_iret rfl rfl dX6_darkestPond_59 ?_
      exact hK
    · exfalso
      rw [hT.1, iI_le (by omega)] at h14
      omega
  · refine go_iload_n dX6_darkestPond_6 rfl ?_
    refine go_aload_n dX6_darkestPond_7 rfl ?_
    refine go_getR fX6_22 dX6_darkestPond_8 rfl (hR _ _ _ rfl) ?_
    refine go_getI fX6_119 dX6_darkestPond_11 rfl ?_
    refine go_icmp_ge (tgt := 58) dX6_darkestPond_14 (by decide) (fun h14 => ?_) (fun h14 => ?_)
    · exfalso
      rw [hT.1, iI_le (by omega)] at h14
      omega
    · have hbd := dkF_bd hS hw i (by omega)
      have h7 := wk7 hS hw i
      have hpi := hS.2.2.2.1 i hi
      unfold PdK at hpi
      refine go_aload_n dX6_darkestPond_17 rfl ?_
      refine go_getR fX6_30 dX6_darkestPond_18 rfl (hR _ _ _ rfl) ?_
      refine go_getR fX6_73 dX6_darkestPond_21 rfl (hR _ _ _ rfl) ?_
      refine go_iload_n dX6_darkestPond_24 rfl ?_
      refine go_iald dX6_darkestPond_25 rfl (vp_iI (by omega)) ?_
      rw [cl_n _ (by omega), (hW.1 i (by omega)).1]
      refine go_aload_n dX6_darkestPond_26 rfl ?_
      refine go_getR fX6_22 dX6_darkestPond_27 rfl (hR _ _ _ rfl) ?_
      refine go_getR fX6_69 dX6_darkestPond_30 rfl (hR _ _ _ rfl) ?_
      refine go_iload_n dX6_darkestPond_33 rfl ?_
      refine go_aald dX6_darkestPond_34 rfl (by decide) (vp_iI (by omega)) (by rw [cl_n _ (by omega)]; exact hR _ _ _ (r25 _ (by omega)).2.2.1) ?_
      refine go_bipush (v := iI 6) dX6_darkestPond_35 (by decide) ?_
      refine go_iald dX6_darkestPond_37 (r25 i (by omega)).2.2.2 (vp_iI (by decide)) ?_
      rw [show (iI 6).toNatClampNeg = 6 by decide, hT.2.2.2.1 i 6 hi (by decide)]
      refine go_isub dX6_darkestPond_38 ?_
      rw [iI_sub]
      refine go_istore dX6_darkestPond_39 (Nat.le_of_ble_eq_true rfl) rfl ?_
      refine go_iload dX6_darkestPond_41 rfl ?_
      refine go_iload_n dX6_darkestPond_43 rfl ?_
      refine go_icmp_le (tgt := 52) dX6_darkestPond_44 (by decide) (fun h44 => ?_) (fun h44 => ?_)
      · rw [iI_le (by omega)] at h44
        refine go_iincI dX6_darkestPond_52 rfl (Nat.le_of_ble_eq_true rfl) rfl ?_
        refine go_goto (tgt := 6) dX6_darkestPond_55 (by decide) ?_
        simp only [List.set, iI_add]
        have e : dkF s w (i + 1) = dkF s w i := if_neg (by omega)
        rw [e] at ih
        exact ih _
      · rw [iI_le (by omega)] at h44
        refine go_iload dX6_darkestPond_47 rfl ?_
        refine go_istore_n dX6_darkestPond_49 (Nat.le_of_ble_eq_true rfl) rfl ?_
        refine go_iload_n dX6_darkestPond_50 rfl ?_
        refine go_istore_n dX6_darkestPond_51 (Nat.le_of_ble_eq_true rfl) rfl ?_
        refine go_iincI dX6_darkestPond_52 rfl (Nat.le_of_ble_eq_true rfl) rfl ?_
        refine go_goto (tgt := 6) dX6_darkestPond_55 (by decide) ?_
        simp only [List.set, iI_add]
        have e : dkF s w (i + 1) = ((i : Int), wa w i - pd s i 6) := if_pos (by omega)
        rw [e] at ih
        exact ih _

theorem ct_X6_darkestPond {l : Launch} {D : va_G} {cA ad : Nat → Nat} {d : Nat} {σ : AS} {K : Option Value → AS → Prop} {s : PS} {w : WT} (hR : RO σ) (hT : TwC σ s) (hS : TwK s) (hW : WC σ 87 w) (hw : WK s w) (hK : K (some (.int (iI (dkF s w (nP s)).1))) σ) : Call l D cA ad d mX6_darkestPond [.ref 105] σ K := by
  refine call_go (by decide) (Nat.le_of_ble_eq_true rfl) (show Go l D cA ad d mX6_darkestPond 0 [.ref 105, .null, .null, .null, .null] [] σ K from ?_)
  refine go_iconst (v := iI (-1)) dX6_darkestPond_0 (by decide) ?_
  refine go_istore_n dX6_darkestPond_1 (Nat.le_of_ble_eq_true rfl) rfl ?_
  refine go_iconst (v := iI 0) dX6_darkestPond_2 (by decide) ?_
  refine go_istore_n dX6_darkestPond_3 (Nat.le_of_ble_eq_true rfl) rfl ?_
  refine go_iconst (v := iI 0) dX6_darkestPond_4 (by decide) ?_
  refine go_istore_n dX6_darkestPond_5 (Nat.le_of_ble_eq_true rfl) rfl ?_
  exact dk6 hR hT hS hW hw hK 0 (by omega) _

theorem ct_X11_darkest {l : Launch} {D : va_G} {cA ad : Nat → Nat} {d : Nat} {σ : AS} {K : Option Value → AS → Prop} {X : XS} (hR : RO σ) (hK0 : XK X) (hC : CI σ X) (hK : ∀ τ, QF σ τ → K (some (.int (iI (darkA X)))) τ) : Call l D cA ad (d + 1) mX11_darkest [.ref 0] σ K := by
  refine call_go (by decide) (Nat.le_of_ble_eq_true rfl) (show Go l D cA ad (d + 1) mX11_darkest 0 [.ref 0] [] σ K from ?_)
  refine go_aload_n dX11_darkest_0 rfl ?_
  refine go_getR fX11_19 dX11_darkest_1 rfl (hR _ _ _ rfl) ?_
  refine go_callV (as := []) wX11_135 dX11_darkest_4 rfl rfl rfl rfl (Nat.le_of_ble_eq_true rfl) (ct_told2 hC.2.1 hK0.s (fun hn => ?_) (fun hn => ?_))
  · refine go_if_eq (tgt := 20) dX11_darkest_7 (by decide) (fun h7 => ?_) (fun h7 => ?_)
    · exact absurd h7 (by decide)
    · refine go_aload_n dX11_darkest_10 rfl ?_
      refine go_getR fX11_94 dX11_darkest_11 rfl (hR _ _ _ rfl) ?_
      refine go_callV (as := []) wX11_326 dX11_darkest_14 rfl rfl rfl rfl (Nat.le_of_ble_eq_true rfl) (ct_X6_darkestPond hR hC.2.1 hK0.s hC.2.2.1 hK0.w ?_)
      refine go_goto (tgt := 21) dX11_darkest_17 (by decide) ?_
      refine go_iret rfl rfl dX11_darkest_21 ?_
      exact hK σ QF.rf
  · refine go_if_eq (tgt := 20) dX11_darkest_7 (by decide) (fun h7 => ?_) (fun h7 => ?_)
    · refine go_iconst (v := iI (-1)) dX11_darkest_20 (by decide) ?_
      refine go_iret rfl rfl dX11_darkest_21 ?_
      have h9 := hK σ QF.rf
      unfold darkA at h9
      rw [hn] at h9
      exact h9
    · exact absurd h7 (by decide)

theorem md11 {l : Launch} {D : va_G} {cA ad : Nat → Nat} {d : Nat} {σ : AS} {K : Option Value → AS → Prop} {s : PS} {w : WT} (hR : RO σ) (hT : TwM σ s) (hS : TwK s) (hW : WM σ 124 w) (hw : WK s w) (hK : K (some (.int (iI (dkF s w (nP s)).1))) σ) : ∀ i : Nat, i ≤ nP s → ∀ v4 : Value, Go l D cA ad (d + 1) mX12_darkest 11 [.ref 111, .int (iI (dkF s w i).1), .int (iI (dkF s w i).2), .int (iI i), v4] [] σ K := by
  have hP7 := hS.1
  refine up_loop (P := fun i : Nat => ∀ v4 : Value, Go l D cA ad (d + 1) mX12_darkest 11 [.ref 111, .int (iI (dkF s w i).1), .int (iI (dkF s w i).2), .int (iI i), v4] [] σ K) (fun v4 => ?_) (fun i hi ih v4 => ?_)
  · refine go_iload_n dX12_darkest_11 rfl ?_
    refine go_aload_n dX12_darkest_12 rfl ?_
    refine go_getI fX12_294 dX12_darkest_13 rfl ?_
    refine go_icmp_ge (tgt := 57) dX12_darkest_16 (by decide) (fun h16 => ?_) (fun h16 => ?_)
    · refine go_iload_n dX12_darkest_57 rfl ?_
      refine go_iret rfl rfl dX12_darkest_58 ?_
      exact hK
    · exfalso
      rw [hT.1, iI_le (by omega)] at h16
      omega
  · refine go_iload_n dX12_darkest_11 rfl ?_
    refine go_aload_n dX12_darkest_12 rfl ?_
    refine go_getI fX12_294 dX12_darkest_13 rfl ?_
    refine go_icmp_ge (tgt := 57) dX12_darkest_16 (by decide) (fun h16 => ?_) (fun h16 => ?_)
    · exfalso
      rw [hT.1, iI_le (by omega)] at h16
      omega
    · have hbd := dkF_bd hS hw i (by omega)
      have h7 := wk7 hS hw i
      have hpi := hS.2.2.2.1 i hi
      unfold PdK at hpi
      refine go_aload_n dX12_darkest_19 rfl ?_
      refine go_getR fX12_61 dX12_darkest_20 rfl (hR _ _ _ rfl) ?_
      refine go_iload_n dX12_darkest_23 rfl ?_
      refine go_callS (as := [_, _]) wX12_312 dX12_darkest_24 rfl rfl (Nat.le_of_ble_eq_true rfl) (ct_X12_water rfl hW (by omega) ?_)
      refine go_aload_n dX12_darkest_27 rfl ?_
      refine go_iload_n dX12_darkest_28 rfl ?_
      refine go_bipush (v := iI 6) dX12_darkest_29 (by decide) ?_
      refine go_callV (as := [_, _]) wX12_300 dX12_darkest_31 rfl rfl rfl rfl (Nat.le_of_ble_eq_true rfl) (ct_X12_told (j := 6) hR hT hS.1 hi (by decide) ?_)
      refine go_isub dX12_darkest_34 ?_
      rw [iI_sub]
      refine go_istore dX12_darkest_35 (Nat.le_of_ble_eq_true rfl) rfl ?_
      refine go_iload dX12_darkest_37 rfl ?_
      refine go_iload_n dX12_darkest_39 rfl ?_
      refine go_icmp_gt (tgt := 46) dX12_darkest_40 (by decide) (fun h40 => ?_) (fun h40 => ?_)
      · rw [iI_lt (by omega)] at h40
        refine go_iload_n dX12_darkest_46 rfl ?_
        refine go_istore_n dX12_darkest_47 (Nat.le_of_ble_eq_true rfl) rfl ?_
        refine go_iload dX12_darkest_48 rfl ?_
        refine go_istore_n dX12_darkest_50 (Nat.le_of_ble_eq_true rfl) rfl ?_
        refine go_iincI dX12_darkest_51 rfl (Nat.le_of_ble_eq_true rfl) rfl ?_
        refine go_goto (tgt := 11) dX12_darkest_54 (by decide) ?_
        simp only [List.set, iI_add]
        have e : dkF s w (i + 1) = ((i : Int), wa w i - pd s i 6) := if_pos (by omega)
        rw [e] at ih
        exact ih _
      · rw [iI_lt (by omega)] at h40
        refine go_goto (tgt := 51) dX12_darkest_43 (by decide) ?_
        refine go_iincI dX12_darkest_51 rfl (Nat.le_of_ble_eq_true rfl) rfl ?_
        refine go_goto (tgt := 11) dX12_darkest_54 (by decide) ?_
        simp only [List.set, iI_add]
        have e : dkF s w (i + 1) = dkF s w i := if_neg (by omega)
        rw [e] at ih
        exact ih _

theorem ct_X12_darkest {l : Launch} {D : va_G} {cA ad : Nat → Nat} {d : Nat} {σ : AS} {K : Option Value → AS → Prop} {X : XS} (hR : RO σ) (hK0 : XK X) (hC : MI σ X) (hK : ∀ τ, DF (xL X) σ τ → K (some (.int (iI (darkA X)))) τ) : Call l D cA ad (d + 1) mX12_darkest [.ref 111] σ K := by
  refine call_go (by decide) (Nat.le_of_ble_eq_true rfl) (show Go l D cA ad (d + 1) mX12_darkest 0 [.ref 111, .null, .null, .null, .null] [] σ K from ?_)
  refine go_aload_n dX12_darkest_0 rfl ?_
  refine go_iconst (v := iI 0) dX12_darkest_1 (by decide) ?_
  refine go_putI fX12_96 rfl dX12_darkest_2 rfl rfl rfl ?_
  have hq : DF (xL X) σ (sI σ 111 (upd (σ.1 111) 0 (iI 0))) := DF_f0 DF.rf
  have hR0 := hq.RO hR
  have hC0 := hC.q hK0 hq
  generalize sI σ 111 (upd (σ.1 111) 0 (iI 0)) = τ at hq hR0 hC0 ⊢
  refine go_iconst (v := iI (-1)) dX12_darkest_5 (by decide) ?_
  refine go_istore_n dX12_darkest_6 (Nat.le_of_ble_eq_true rfl) rfl ?_
  refine go_iconst (v := iI 0) dX12_darkest_7 (by decide) ?_
  refine go_istore_n dX12_darkest_8 (Nat.le_of_ble_eq_true rfl) rfl ?_
  refine go_iconst (v := iI 0) dX12_darkest_9 (by decide) ?_
  refine go_istore_n dX12_darkest_10 (Nat.le_of_ble_eq_true rfl) rfl ?_
  simp only [List.set]
  exact md11 hR0 hC0.2.1 hK0.s (WM_R.mpr hC0.2.2.1.1) hK0.w (hK τ hq) 0 (by omega) _

theorem rn12 {l : Launch} {D : va_G} {cA ad : Nat → Nat} {d : Nat} {σ : AS} {K : Option Value → AS → Prop} {s : PS} {w : WT} {p : Nat} (hR : RO σ) (hT : TwC σ s) (hS : TwK s) (hW : WC σ 87 w) (hw : WK s w) (hp : p < nP s) (hK : K (some (.int (iI (wa w p + rnF s p (nQ s) - (if wa w p < pd s p 3 then 10 else 0))))) σ) : ∀ i : Nat, i ≤ nQ s → Go l D cA ad d mX6_rentOf 12 [.ref 105, .int (iI p), .int (iI (wa w p + rnF s p i)), .int (iI i)] [] σ K := by
  have hP7 := hS.1
  have hQ9 := hS.2.1
  refine up_loop ?_ (fun i hi ih => ?_)
  · refine go_iload_n dX6_rentOf_12 rfl ?_
    refine go_aload_n dX6_rentOf_13 rfl ?_
    refine go_getR fX6_22 dX6_rentOf_14 rfl (hR _ _ _ rfl) ?_
    refine go_getI fX6_98 dX6_rentOf_17 rfl ?_
    refine go_icmp_ge (tgt := 62) dX6_rentOf_20 (by decide) (fun h20 => ?_) (fun h20 => ?_)
    · refine go_aload_n dX6_rentOf_62 rfl ?_
      refine go_getR fX6_30 dX6_rentOf_63 rfl (hR _ _ _ rfl) ?_
      refine go_getR fX6_73 dX6_rentOf_66 rfl (hR _ _ _ rfl) ?_
      refine go_iload_n dX6_rentOf_69 rfl ?_
      refine go_iald dX6_rentOf_70 rfl (vp_iI (by omega)) ?_
      rw [cl_n _ (by omega), (hW.1 p (by omega)).1]
      refine go_aload_n dX6_rentOf_71 rfl ?_
      refine go_getR fX6_22 dX6_rentOf_72 rfl (hR _ _ _ rfl) ?_
      refine go_getR fX6_69 dX6_rentOf_75 rfl (hR _ _ _ rfl) ?_
      refine go_iload_n dX6_rentOf_78 rfl ?_
      refine go_aald dX6_rentOf_79 rfl (by decide) (vp_iI (by omega)) (by rw [cl_n _ (by omega)]; exact hR _ _ _ (r25 _ (by omega)).2.2.1) ?_
      refine go_iconst (v := iI 3) dX6_rentOf_80 (by decide) ?_
      refine go_iald dX6_rentOf_81 (r25 p (by omega)).2.2.2 (vp_iI (by decide)) ?_
      rw [cl_3, hT.2.2.2.1 p 3 hp (by decide)]
      have h7 := wk7 hS hw p
      have hpi := hS.2.2.2.1 p hp
      unfold PdK at hpi
      refine go_icmp_ge (tgt := 92) dX6_rentOf_82 (by decide) (fun h82 => ?_) (fun h82 => ?_)
      · rw [iI_le (by omega)] at h82
        refine go_iload_n dX6_rentOf_92 rfl ?_
        refine go_iret rfl rfl dX6_rentOf_93 ?_
        rw [if_neg (by omega), Int.sub_zero] at hK
        exact hK
      · rw [iI_le (by omega)] at h82
        refine go_iload_n dX6_rentOf_85 rfl ?_
        refine go_bipush (v := iI 10) dX6_rentOf_86 (by decide) ?_
        refine go_isub dX6_rentOf_88 ?_
        refine go_goto (tgt := 93) dX6_rentOf_89 (by decide) ?_
        refine go_iret rfl rfl dX6_rentOf_93 ?_
        rw [iI_sub]
        rw [if_pos (by omega)] at hK
        exact hK
    · exfalso
      rw [hT.2.1, iI_le (by omega)] at h20
      omega
  · refine go_iload_n dX6_rentOf_12 rfl ?_
    refine go_aload_n dX6_rentOf_13 rfl ?_
    refine go_getR fX6_22 dX6_rentOf_14 rfl (hR _ _ _ rfl) ?_
    refine go_getI fX6_98 dX6_rentOf_17 rfl ?_
    refine go_icmp_ge (tgt := 62) dX6_rentOf_20 (by decide) (fun h20 => ?_) (fun h20 => ?_)
    · exfalso
      rw [hT.2.1, iI_le (by omega)] at h20
      omega
    · have hpe := pe_ok hS hi
      refine go_aload_n dX6_rentOf_23 rfl ?_
      refine go_getR fX6_22 dX6_rentOf_24 rfl (hR _ _ _ rfl) ?_
      refine go_getR fX6_125 dX6_rentOf_27 rfl (hR _ _ _ rfl) ?_
      refine go_iload_n dX6_rentOf_30 rfl ?_
      refine go_aald dX6_rentOf_31 rfl (by decide) (vp_iI (by omega)) (by rw [cl_n _ (by omega)]; exact hR _ _ _ (r33 _ (by omega)).2.2.1) ?_
      refine go_iconst (v := iI 0) dX6_rentOf_32 (by decide) ?_
      refine go_iald dX6_rentOf_33 (r33 i (by omega)).2.2.2 (vp_iI (by decide)) ?_
      rw [cl_0, hT.2.2.2.2 i 0 hi (by decide), hpe.1]
      refine go_iload_n dX6_rentOf_34 rfl ?_
      refine go_icmp_eq (tgt := 53) dX6_rentOf_35 (by decide) (fun h35 => ?_) (fun h35 => ?_)
      · rw [iI_eq (by omega)] at h35
        refine go_iincI dX6_rentOf_53 rfl (Nat.le_of_ble_eq_true rfl) rfl ?_
        refine go_iincI dX6_rentOf_56 rfl (Nat.le_of_ble_eq_true rfl) rfl ?_
        refine go_goto (tgt := 12) dX6_rentOf_59 (by decide) ?_
        simp only [List.set, iI_add]
        rw [rnF_t (by omega), ← Int.add_assoc] at ih
        exact ih
      · rw [iI_eq (by omega)] at h35
        refine go_aload_n dX6_rentOf_38 rfl ?_
        refine go_getR fX6_22 dX6_rentOf_39 rfl (hR _ _ _ rfl) ?_
        refine go_getR fX6_125 dX6_rentOf_42 rfl (hR _ _ _ rfl) ?_
        refine go_iload_n dX6_rentOf_45 rfl ?_
        refine go_aald dX6_rentOf_46 rfl (by decide) (vp_iI (by omega)) (by rw [cl_n _ (by omega)]; exact hR _ _ _ (r33 _ (by omega)).2.2.1) ?_
        refine go_iconst (v := iI 1) dX6_rentOf_47 (by decide) ?_
        refine go_iald dX6_rentOf_48 (r33 i (by omega)).2.2.2 (vp_iI (by decide)) ?_
        rw [cl_1, hT.2.2.2.2 i 1 hi (by decide), hpe.2.1]
        refine go_iload_n dX6_rentOf_49 rfl ?_
        refine go_icmp_ne (tgt := 56) dX6_rentOf_50 (by decide) (fun h50 => ?_) (fun h50 => ?_)
        · rw [iI_eq (by omega)] at h50
          refine go_iincI dX6_rentOf_56 rfl (Nat.le_of_ble_eq_true rfl) rfl ?_
          refine go_goto (tgt := 12) dX6_rentOf_59 (by decide) ?_
          simp only [List.set, iI_add]
          rw [rnF_f (by omega)] at ih
          exact ih
        · rw [iI_eq (by omega)] at h50
          refine go_iincI dX6_rentOf_53 rfl (Nat.le_of_ble_eq_true rfl) rfl ?_
          refine go_iincI dX6_rentOf_56 rfl (Nat.le_of_ble_eq_true rfl) rfl ?_
          refine go_goto (tgt := 12) dX6_rentOf_59 (by decide) ?_
          simp only [List.set, iI_add]
          rw [rnF_t (by omega), ← Int.add_assoc] at ih
          exact ih

theorem ct_X6_rentOf {l : Launch} {D : va_G} {cA ad : Nat → Nat} {d : Nat} {σ : AS} {K : Option Value → AS → Prop} {s : PS} {w : WT} {p : Nat} (hR : RO σ) (hT : TwC σ s) (hS : TwK s) (hW : WC σ 87 w) (hw : WK s w) (hp : p < nP s) (hK : K (some (.int (iI (wa w p + rnF s p (nQ s) - (if wa w p < pd s p 3 then 10 else 0))))) σ) : Call l D cA ad d mX6_rentOf [.ref 105, .int (iI p)] σ K := by
  refine call_go (by decide) (Nat.le_of_ble_eq_true rfl) (show Go l D cA ad d mX6_rentOf 0 [.ref 105, .int (iI p), .null, .null] [] σ K from ?_)
  refine go_aload_n dX6_rentOf_0 rfl ?_
  refine go_getR fX6_30 dX6_rentOf_1 rfl (hR _ _ _ rfl) ?_
  refine go_getR fX6_73 dX6_rentOf_4 rfl (hR _ _ _ rfl) ?_
  refine go_iload_n dX6_rentOf_7 rfl ?_
  refine go_iald dX6_rentOf_8 rfl (vp_iI (by have := hS.1; omega)) ?_
  rw [cl_n _ (by have := hS.1; omega), (hW.1 p (by have := hS.1; omega)).1]
  refine go_istore_n dX6_rentOf_9 (Nat.le_of_ble_eq_true rfl) rfl ?_
  refine go_iconst (v := iI 0) dX6_rentOf_10 (by decide) ?_
  refine go_istore_n dX6_rentOf_11 (Nat.le_of_ble_eq_true rfl) rfl ?_
  have h9 := rn12 (l := l) (D := D) (cA := cA) (ad := ad) (d := d) hR hT hS hW hw hp hK 0 (by omega)
  rw [show wa w p + rnF s p 0 = wa w p from Int.add_zero _] at h9
  exact h9

theorem ct_X11_rent {l : Launch} {D : va_G} {cA ad : Nat → Nat} {d : Nat} {σ : AS} {K : Option Value → AS → Prop} {X : XS} {p : Int} (hR : RO σ) (hK0 : XK X) (hC : CI σ X) (hp32 : -2147483648 ≤ p ∧ p < 2147483648) (hK : ∀ τ, QF σ τ → K (some (.int (iI (rentA X p)))) τ) : Call l D cA ad (d + 1) mX11_rent [.ref 0, .int (iI p)] σ K := by
  refine call_go (by decide) (Nat.le_of_ble_eq_true rfl) (show Go l D cA ad (d + 1) mX11_rent 0 [.ref 0, .int (iI p)] [] σ K from ?_)
  refine go_aload_n dX11_rent_0 rfl ?_
  refine go_getR fX11_19 dX11_rent_1 rfl (hR _ _ _ rfl) ?_
  refine go_iload_n dX11_rent_4 rfl ?_
  refine go_callV (as := [_]) wX11_142 dX11_rent_5 rfl rfl rfl rfl (Nat.le_of_ble_eq_true rfl) (ct_hasPond2 hp32 hC.2.1 hK0.s (fun k hke hkl => ?_) (fun hkx => ?_))
  · refine go_if_eq (tgt := 22) dX11_rent_8 (by decide) (fun h8 => ?_) (fun h8 => ?_)
    · exact absurd h8 (by decide)
    · subst hke
      refine go_aload_n dX11_rent_11 rfl ?_
      refine go_getR fX11_94 dX11_rent_12 rfl (hR _ _ _ rfl) ?_
      refine go_iload_n dX11_rent_15 rfl ?_
      refine go_callV (as := [_]) wX11_329 dX11_rent_16 rfl rfl rfl rfl (Nat.le_of_ble_eq_true rfl) (ct_X6_rentOf hR hC.2.1 hK0.s hC.2.2.1 hK0.w hkl ?_)
      refine go_goto (tgt := 24) dX11_rent_19 (by decide) ?_
      refine go_iret rfl rfl dX11_rent_24 ?_
      have e : rentA X k = wa (xw X) k + rnF (xs X) k (nQ (xs X)) - (if wa (xw X) k < pd (xs X) k 3 then 10 else 0) := by unfold rentA; rw [if_pos (by omega), Int.toNat_natCast]
      have h9 := hK σ QF.rf
      rw [e] at h9
      exact h9
  · refine go_if_eq (tgt := 22) dX11_rent_8 (by decide) (fun h8 => ?_) (fun h8 => ?_)
    · refine go_ldc lX11_226 dX11_rent_22 ?_
      refine go_iret rfl rfl dX11_rent_24 ?_
      have e : rentA X p = -1000000 := by unfold rentA; rw [if_neg (by omega)]
      have h9 := hK σ QF.rf
      rw [e] at h9
      exact h9
    · exact absurd h8 (by decide)

theorem mr50 {l : Launch} {D : va_G} {cA ad : Nat → Nat} {d : Nat} {σ : AS} {K : Option Value → AS → Prop} {s : PS} {p : Nat} {z : Int} (hR : RO σ) (hT : TwM σ s) (hS : TwK s) (hp : p < nP s) (hK : K (some (.int (iI (z + rnF s p (nQ s))))) σ) : ∀ i : Nat, i ≤ nQ s → Go l D cA ad d mX12_rent 50 [.ref 111, .int (iI p), .int (iI (z + rnF s p i)), .int (iI i)] [] σ K := by
  have hP7 := hS.1
  have hQ9 := hS.2.1
  refine up_loop ?_ (fun i hi ih => ?_)
  · refine go_iload_n dX12_rent_50 rfl ?_
    refine go_aload_n dX12_rent_51 rfl ?_
    refine go_getI fX12_297 dX12_rent_52 rfl ?_
    refine go_icmp_ge (tgt := 98) dX12_rent_55 (by decide) (fun h55 => ?_) (fun h55 => ?_)
    · refine go_iload_n dX12_rent_98 rfl ?_
      refine go_iret rfl rfl dX12_rent_99 ?_
      exact hK
    · exfalso
      rw [hT.2.1, iI_le (by omega)] at h55
      omega
  · refine go_iload_n dX12_rent_50 rfl ?_
    refine go_aload_n dX12_rent_51 rfl ?_
    refine go_getI fX12_297 dX12_rent_52 rfl ?_
    refine go_icmp_ge (tgt := 98) dX12_rent_55 (by decide) (fun h55 => ?_) (fun h55 => ?_)
    · exfalso
      rw [hT.2.1, iI_le (by omega)] at h55
      omega
    · have hpe := pe_ok hS hi
      refine go_iload_n dX12_rent_58 rfl ?_
      refine go_aload_n dX12_rent_59 rfl ?_
      refine go_getR fX12_49 dX12_rent_60 rfl (hR _ _ _ rfl) ?_
      refine go_iconst (v := iI 5) dX12_rent_63 (by decide) ?_
      refine go_iload_n dX12_rent_64 rfl ?_
      refine go_imul dX12_rent_65 ?_
      rw [iI_mul]
      refine go_iald dX12_rent_66 rfl (vp_iI (by omega)) ?_
      rw [iI_cl (by omega), show (5 * (i : Int)).toNat = 5 * i + 0 by omega, hT.2.2.2.2 i 0 hi (by decide), hpe.1]
      refine go_iload_n dX12_rent_67 rfl ?_
      refine go_icmp_eq (tgt := 85) dX12_rent_68 (by decide) (fun h68 => ?_) (fun h68 => ?_)
      · rw [iI_eq (by omega)] at h68
        refine go_iconst (v := iI 5) dX12_rent_85 (by decide) ?_
        refine go_goto (tgt := 90) dX12_rent_86 (by decide) ?_
        refine go_iadd dX12_rent_90 ?_
        refine go_istore_n dX12_rent_91 (Nat.le_of_ble_eq_true rfl) rfl ?_
        refine go_iincI dX12_rent_92 rfl (Nat.le_of_ble_eq_true rfl) rfl ?_
        refine go_goto (tgt := 50) dX12_rent_95 (by decide) ?_
        simp only [List.set, iI_add]
        rw [rnF_t (by omega), ← Int.add_assoc] at ih
        exact ih
      · rw [iI_eq (by omega)] at h68
        refine go_aload_n dX12_rent_71 rfl ?_
        refine go_getR fX12_49 dX12_rent_72 rfl (hR _ _ _ rfl) ?_
        refine go_iconst (v := iI 5) dX12_rent_75 (by decide) ?_
        refine go_iload_n dX12_rent_76 rfl ?_
        refine go_imul dX12_rent_77 ?_
        refine go_iconst (v := iI 1) dX12_rent_78 (by decide) ?_
        refine go_iadd dX12_rent_79 ?_
        rw [iI_mul, iI_add]
        refine go_iald dX12_rent_80 rfl (vp_iI (by omega)) ?_
        rw [iI_cl (by omega), show (5 * (i : Int) + 1).toNat = 5 * i + 1 by omega, hT.2.2.2.2 i 1 hi (by decide), hpe.2.1]
        refine go_iload_n dX12_rent_81 rfl ?_
        refine go_icmp_ne (tgt := 89) dX12_rent_82 (by decide) (fun h82 => ?_) (fun h82 => ?_)
        · rw [iI_eq (by omega)] at h82
          refine go_iconst (v := iI 0) dX12_rent_89 (by decide) ?_
          refine go_iadd dX12_rent_90 ?_
          refine go_istore_n dX12_rent_91 (Nat.le_of_ble_eq_true rfl) rfl ?_
          refine go_iincI dX12_rent_92 rfl (Nat.le_of_ble_eq_true rfl) rfl ?_
          refine go_goto (tgt := 50) dX12_rent_95 (by decide) ?_
          simp only [List.set, iI_add, Int.add_zero]
          rw [rnF_f (by omega)] at ih
          exact ih
        · rw [iI_eq (by omega)] at h82
          refine go_iconst (v := iI 5) dX12_rent_85 (by decide) ?_
          refine go_goto (tgt := 90) dX12_rent_86 (by decide) ?_
          refine go_iadd dX12_rent_90 ?_
          refine go_istore_n dX12_rent_91 (Nat.le_of_ble_eq_true rfl) rfl ?_
          refine go_iincI dX12_rent_92 rfl (Nat.le_of_ble_eq_true rfl) rfl ?_
          refine go_goto (tgt := 50) dX12_rent_95 (by decide) ?_
          simp only [List.set, iI_add]
          rw [rnF_t (by omega), ← Int.add_assoc] at ih
          exact ih

theorem ct_X12_rent {l : Launch} {D : va_G} {cA ad : Nat → Nat} {d : Nat} {σ : AS} {K : Option Value → AS → Prop} {X : XS} {p : Int} (hR : RO σ) (hK0 : XK X) (hC : MI σ X) (hp32 : -2147483648 ≤ p ∧ p < 2147483648) (hK : ∀ τ, DF (xL X) σ τ → K (some (.int (iI (rentA X p)))) τ) : Call l D cA ad (d + 2) mX12_rent [.ref 111, .int (iI p)] σ K := by
  have hP7 := hK0.s.1
  have hQ9 := hK0.s.2.1
  refine call_go (by decide) (Nat.le_of_ble_eq_true rfl) (show Go l D cA ad (d + 2) mX12_rent 0 [.ref 111, .int (iI p), .null, .null] [] σ K from ?_)
  refine go_aload_n dX12_rent_0 rfl ?_
  refine go_iconst (v := iI 0) dX12_rent_1 (by decide) ?_
  refine go_putI fX12_96 rfl dX12_rent_2 rfl rfl rfl ?_
  have hq : DF (xL X) σ (sI σ 111 (upd (σ.1 111) 0 (iI 0))) := DF_f0 DF.rf
  have hR0 := hq.RO hR
  have hC0 := hC.q hK0 hq
  generalize sI σ 111 (upd (σ.1 111) 0 (iI 0)) = τ at hq hR0 hC0 ⊢
  refine go_aload_n dX12_rent_5 rfl ?_
  refine go_iload_n dX12_rent_6 rfl ?_
  refine go_callV (as := [_]) wX12_364 dX12_rent_7 rfl rfl rfl rfl (Nat.le_of_ble_eq_true rfl) (ct_isPond2 hp32 hC0.2.1 hK0.s (fun k hke hkl => ?_) (fun hkx => ?_))
  · refine go_if_ne (tgt := 17) dX12_rent_10 (by decide) (fun h10 => ?_) (fun h10 => ?_)
    · subst hke
      refine go_aload_n dX12_rent_17 rfl ?_
      refine go_getR fX12_61 dX12_rent_18 rfl (hR0 _ _ _ rfl) ?_
      refine go_iload_n dX12_rent_21 rfl ?_
      refine go_callS (as := [_, _]) wX12_312 dX12_rent_22 rfl rfl (Nat.le_of_ble_eq_true rfl) (ct_X12_water (w := xw X) rfl (WM_R.mpr hC0.2.2.1.1) (by omega) ?_)
      refine go_aload_n dX12_rent_25 rfl ?_
      refine go_aload_n dX12_rent_26 rfl ?_
      refine go_getR fX12_61 dX12_rent_27 rfl (hR0 _ _ _ rfl) ?_
      refine go_callV (as := [_]) wX12_360 dX12_rent_30 rfl rfl rfl rfl (Nat.le_of_ble_eq_true rfl) (ct_X12_bareIn hR0 hC0.2.1 hK0.s rfl (WM_R.mpr hC0.2.2.1.1) hK0.w ?_)
      refine go_iload_n dX12_rent_33 rfl ?_
      refine go_callS (as := [_, _]) wX12_229 dX12_rent_34 rfl rfl (Nat.le_of_ble_eq_true rfl) (ct_X12_has (btF_512 _ _ (by omega)) (by omega) ?_)
      unfold barF
      have hbb := btF_bit (barP (xs X) (xw X)) (nP (xs X)) (by omega) k (by omega)
      by_cases hlt : wa (xw X) k < pd (xs X) k 3
      · rw [hbb, if_pos ⟨hkl, by unfold barP; exact decide_eq_true hlt⟩]
        refine go_if_eq (tgt := 45) dX12_rent_37 (by decide) (fun h37 => ?_) (fun h37 => ?_)
        · exact absurd h37 (by decide)
        · refine go_bipush (v := iI 10) dX12_rent_40 (by decide) ?_
          refine go_goto (tgt := 46) dX12_rent_42 (by decide) ?_
          refine go_isub dX12_rent_46 ?_
          refine go_istore_n dX12_rent_47 (Nat.le_of_ble_eq_true rfl) rfl ?_
          refine go_iconst (v := iI 0) dX12_rent_48 (by decide) ?_
          refine go_istore_n dX12_rent_49 (Nat.le_of_ble_eq_true rfl) rfl ?_
          have e : rentA X k = wa (xw X) k + rnF (xs X) k (nQ (xs X)) - (if wa (xw X) k < pd (xs X) k 3 then 10 else 0) := by unfold rentA; rw [if_pos (by omega), Int.toNat_natCast]
          have h9 := hK τ hq
          rw [e, if_pos hlt] at h9
          simp only [List.set]
          rw [iI_sub]
          have h8 := mr50 (l := l) (D := D) (cA := cA) (ad := ad) (d := d + 2) (z := wa (xw X) k - 10) (K := K) hR0 hC0.2.1 hK0.s hkl (by rw [show wa (xw X) k - 10 + rnF (xs X) k (nQ (xs X)) = wa (xw X) k + rnF (xs X) k (nQ (xs X)) - 10 by omega]; exact h9) 0 (by omega)
          rw [show wa (xw X) k - 10 + rnF (xs X) k 0 = wa (xw X) k - 10 from Int.add_zero _] at h8
          exact h8
      · rw [hbb, if_neg (fun q => by unfold barP at q; exact hlt (of_decide_eq_true q.2))]
        refine go_if_eq (tgt := 45) dX12_rent_37 (by decide) (fun h37 => ?_) (fun h37 => ?_)
        · refine go_iconst (v := iI 0) dX12_rent_45 (by decide) ?_
          refine go_isub dX12_rent_46 ?_
          refine go_istore_n dX12_rent_47 (Nat.le_of_ble_eq_true rfl) rfl ?_
          refine go_iconst (v := iI 0) dX12_rent_48 (by decide) ?_
          refine go_istore_n dX12_rent_49 (Nat.le_of_ble_eq_true rfl) rfl ?_
          have e : rentA X k = wa (xw X) k + rnF (xs X) k (nQ (xs X)) - (if wa (xw X) k < pd (xs X) k 3 then 10 else 0) := by unfold rentA; rw [if_pos (by omega), Int.toNat_natCast]
          have h9 := hK τ hq
          rw [e, if_neg hlt] at h9
          simp only [List.set]
          rw [iI_sub]
          have h8 := mr50 (l := l) (D := D) (cA := cA) (ad := ad) (d := d + 2) (z := wa (xw X) k - 0) (K := K) hR0 hC0.2.1 hK0.s hkl (by rw [show wa (xw X) k - 0 + rnF (xs X) k (nQ (xs X)) = wa (xw X) k + rnF (xs X) k (nQ (xs X)) - 0 by omega]; exact h9) 0 (by omega)
          rw [show wa (xw X) k - 0 + rnF (xs X) k 0 = wa (xw X) k - 0 from Int.add_zero _] at h8
          exact h8
        · exact absurd h37 (by decide)
    · exact absurd h10 (by decide)
  · refine go_if_ne (tgt := 17) dX12_rent_10 (by decide) (fun h10 => ?_) (fun h10 => ?_)
    · exact absurd h10 (by decide)
    · refine go_ldcw lX12_408 dX12_rent_13 ?_
      refine go_iret rfl rfl dX12_rent_16 ?_
      have e : rentA X p = -1000000 := by unfold rentA; rw [if_neg (by omega)]
      have h9 := hK τ hq
      rw [e] at h9
      exact h9

