/-! the log and the acts, the class's way -/
def FrS (S : List Nat) (σ τ : AS) : Prop := τ.2 = σ.2 ∧ ∀ k, k ∉ S → τ.1 k = σ.1 k
theorem FrS.rf {S : List Nat} {σ : AS} : FrS S σ σ := ⟨rfl, fun _ _ => rfl⟩
theorem FrS.tr {S : List Nat} {σ τ ρ : AS} (h : FrS S σ τ) (g : FrS S τ ρ) : FrS S σ ρ := ⟨g.1.trans h.1, fun k hk => (g.2 k hk).trans (h.2 k hk)⟩
theorem FrS.mono {S T : List Nat} {σ τ : AS} (h : FrS S σ τ) (hs : ∀ k, k ∈ S → k ∈ T) : FrS T σ τ := ⟨h.1, fun k hk => h.2 k (fun q => hk (hs k q))⟩
theorem FrS.sI {S : List Nat} {σ τ : AS} {k : Nat} {f : Nat → Int32} (h : FrS S σ τ) (hk : k ∈ S) : FrS S σ (sI τ k f) := ⟨h.1, fun j hj => by rw [sI_ne _ _ _ _ (show j ≠ k from fun q => hj (q ▸ hk))]; exact h.2 j hj⟩
theorem FrS.of {lo hi : Nat} {S : List Nat} {σ τ : AS} (h : Fr lo hi σ τ) (hs : ∀ k, lo ≤ k → k ≤ hi → k ∈ S) : FrS S σ τ := ⟨h.1, fun k hk => h.2 k (by
  by_cases c : lo ≤ k ∧ k ≤ hi
  · exact absurd (hs k c.1 c.2) hk
  · omega)⟩
theorem FrS.RO {S : List Nat} {σ τ : AS} (h : FrS S σ τ) (hR : RO σ) : RO τ := by
  intro k j a e
  have := hR k j a e
  rw [show τ.2.2 = σ.2.2 by rw [h.1]]
  exact this
theorem FrS.ofW {S : List Nat} {b : Nat} {σ τ : AS} (h : FrW b σ τ) (h1 : ∀ i, i < 4 → 52 + 4 * i ∈ S ∧ 53 + 4 * i ∈ S) (h2 : ∀ k, b ≤ k → k ≤ b + 3 → k ∈ S) : FrS S σ τ := ⟨h.1, fun k hk => h.2 k (fun i hi => ⟨fun q => hk (q ▸ (h1 i hi).1), fun q => hk (q ▸ (h1 i hi).2)⟩) (by
  by_cases c : b ≤ k ∧ k ≤ b + 3
  · exact absurd (h2 k c.1 c.2) hk
  · omega)⟩
abbrev LG : Type := Nat → Nat → Int
def addL (lg : LG) (T : Nat) (e : Nat → Int) : LG := fun i k => if i = T then e k else lg i k
theorem addL_s {lg : LG} {T k : Nat} {e : Nat → Int} : addL lg T e T k = e k := if_pos rfl
theorem addL_n {lg : LG} {T i k : Nat} {e : Nat → Int} (h : i ≠ T) : addL lg T e i k = lg i k := if_neg h
def ChW (r : Nat → Int32) (a : WT) (lg : LG) : Prop := ∀ i k, i < dy a → dy a ≤ i + 60 → k < 3 → r (3 * (i % 100) + k) = iI (lg i k)
def Chn : WT → List WT → Prop
  | _, [] => True
  | w, a :: l => dy a ≤ dy w ∧ dy w ≤ dy a + 1 ∧ Chn a l
theorem Chn_get : ∀ (l : List WT) (w : WT) (j : Nat) (a : WT), Chn w l → l[j]? = some a → dy a ≤ dy w ∧ dy w ≤ dy a + (j + 1)
  | [], _, _, _, _, h => by simp at h
  | b :: l, w, 0, a, hc, h => by
    have e : b = a := by simpa using h
    subst e
    exact ⟨hc.1, hc.2.1⟩
  | b :: l, w, j + 1, a, hc, h => by
    have := Chn_get l b j a hc.2.2 (by simpa using h)
    have h1 := hc.1
    have h2 := hc.2.1
    omega
theorem Chn_take : ∀ (n : Nat) (l : List WT) (w : WT), Chn w l → Chn w (l.take n)
  | 0, l, w, _ => by rw [List.take_zero]; trivial
  | n + 1, [], w, _ => by rw [List.take_nil]; trivial
  | n + 1, b :: l, w, h => ⟨h.1, h.2.1, Chn_take n l b h.2.2⟩
def AcC (σ : AS) (ac : List WT) : Prop := σ.1 93 0 = iI ac.length ∧ ∃ nx : Nat, nx < 40 ∧ σ.1 93 1 = iI nx ∧ ∀ j a, ac[j]? = some a → RwC (fun i => σ.1 94 (25 * ((nx + 39 - j) % 40) + i)) a ∧ σ.1 94 (25 * ((nx + 39 - j) % 40) + 24) = iI (dy a)
def lgn (T : Nat) : Nat := if T ≤ 60 then T else 60
def logF (lg : LG) (T : Nat) (i k : Int) : Int := if 0 ≤ i ∧ i < lgn T ∧ 0 ≤ k ∧ k < 3 then lg (T - 1 - i.toNat) k.toNat else -1
theorem RwC_cg {r r' : Nat → Int32} {w : WT} (h : RwC r w) (e : ∀ i, i < 24 → r' i = r i) : RwC r' w := by
  refine ⟨fun i hi => ⟨?_, ?_, ?_⟩, ?_, ?_, ?_⟩
  · rw [e _ (by omega)]; exact (h.1 i hi).1
  · rw [e _ (by omega)]; exact (h.1 i hi).2.1
  · rw [e _ (by omega)]; exact (h.1 i hi).2.2
  · rw [e _ (by omega)]; exact h.2.1
  · rw [e _ (by omega)]; exact h.2.2.1
  · rw [e _ (by omega)]; exact h.2.2.2
theorem AcC_put {σ τ : AS} {w : WT} {ac : List WT} {nx : Nat} (hl : ac.length ≤ 40) (hnx : nx < 40) (hO : ∀ j a, ac[j]? = some a → RwC (fun i => σ.1 94 (25 * ((nx + 39 - j) % 40) + i)) a ∧ σ.1 94 (25 * ((nx + 39 - j) % 40) + 24) = iI (dy a)) (h0 : τ.1 93 0 = iI (mn ((ac.length : Int) + 1) 40)) (h1 : τ.1 93 1 = iI (((nx + 1) % 40 : Nat) : Int)) (hN : RwC (fun i => τ.1 94 (25 * nx + i)) w ∧ τ.1 94 (25 * nx + 24) = iI (dy w)) (hE : ∀ j, j < 25 * nx ∨ 25 * nx + 25 ≤ j → τ.1 94 j = σ.1 94 j) : AcC τ ((w :: ac).take 40) := by
  refine ⟨?_, (nx + 1) % 40, by omega, h1, fun j a ha => ?_⟩
  · rw [h0]
    congr 1
    have := mn_or ((ac.length : Int) + 1) 40
    rw [List.length_take, List.length_cons]
    omega
  · have hj : j < 40 := by
      have := (List.getElem?_eq_some_iff.mp ha).1
      rw [List.length_take] at this
      omega
    rw [List.getElem?_take, if_pos hj] at ha
    match j with
    | 0 =>
      have e : w = a := by simpa using ha
      subst e
      rw [show ((nx + 1) % 40 + 39 - 0) % 40 = nx by omega]
      exact hN
    | j + 1 =>
      have ha : ac[j]? = some a := by simpa using ha
      obtain ⟨q1, q2⟩ := hO j a ha
      rw [show ((nx + 1) % 40 + 39 - (j + 1)) % 40 = (nx + 39 - j) % 40 by omega]
      exact ⟨RwC_cg q1 (fun i hi => hE _ (by omega)), by rw [hE _ (by omega)]; exact q2⟩
theorem ct_X0_remember {l : Launch} {D : va_G} {cA ad : Nat → Nat} {d : Nat} {σ : AS} {K : Option Value → AS → Prop} {w : WT} {ac : List WT} (hR : RO σ) (hW : WC σ 87 w) (hch : σ.1 91 0 = iI (dy w)) (hl : ac.length ≤ 40) (hA : AcC σ ac) (hK : ∀ τ, FrS [93, 94] σ τ → AcC τ ((w :: ac).take 40) → K none τ) : Call l D cA ad (d + 2) mX0_remember [.ref 93, .ref 87, .ref 91] σ K := by
  refine call_go (by decide) (Nat.le_of_ble_eq_true rfl) (show Go l D cA ad (d + 2) mX0_remember 0 [.ref 93, .ref 87, .ref 91] [] σ K from ?_)
  obtain ⟨hA0, nx, hnx, hnx1, hO⟩ := hA
  refine go_aload_n dX0_remember_0 rfl ?_
  refine go_aload_n dX0_remember_1 rfl ?_
  refine go_getR fX0_13 dX0_remember_2 rfl (hR _ _ _ rfl) ?_
  refine go_aload_n dX0_remember_5 rfl ?_
  refine go_getI fX0_21 dX0_remember_6 rfl ?_
  refine go_bipush (v := iI 25) dX0_remember_9 (by decide) ?_
  refine go_imul dX0_remember_11 ?_
  rw [hnx1, iI_mul, show (nx : Int) * 25 = ((25 * nx : Nat) : Int) by omega]
  refine go_callV (as := [_, _]) wX0_24 dX0_remember_12 rfl rfl rfl rfl (Nat.le_of_ble_eq_true rfl) (ct_X10_writeTo hR hnx hW (fun r hr hrn => ?_))
  refine go_aload_n dX0_remember_15 rfl ?_
  refine go_getR fX0_13 dX0_remember_16 rfl (hR _ _ _ rfl) ?_
  refine go_aload_n dX0_remember_19 rfl ?_
  refine go_getI fX0_21 dX0_remember_20 rfl ?_
  rw [sI_ne _ _ _ _ (by decide), hnx1]
  refine go_bipush (v := iI 25) dX0_remember_23 (by decide) ?_
  refine go_imul dX0_remember_25 ?_
  refine go_bipush (v := iI 24) dX0_remember_26 (by decide) ?_
  refine go_iadd dX0_remember_28 ?_
  rw [iI_mul, iI_add, show (nx : Int) * 25 + 24 = ((25 * nx + 24 : Nat) : Int) by omega]
  refine go_aload_n dX0_remember_29 rfl ?_
  refine go_getI fX0_28 dX0_remember_30 rfl ?_
  rw [sI_ne _ _ _ _ (by decide), hch]
  refine go_iast dX0_remember_33 rfl (vp_iI (by omega)) ?_
  rw [cl_n _ (by omega), sI_same, sI_sI]
  refine go_aload_n dX0_remember_34 rfl ?_
  refine go_aload_n dX0_remember_35 rfl ?_
  refine go_getI fX0_21 dX0_remember_36 rfl ?_
  rw [sI_ne _ _ _ _ (by decide), hnx1]
  refine go_iconst (v := iI 1) dX0_remember_39 (by decide) ?_
  refine go_iadd dX0_remember_40 ?_
  refine go_bipush (v := iI 40) dX0_remember_41 (by decide) ?_
  refine go_irem dX0_remember_43 (by decide) ?_
  rw [iI_add, iI_rem (by omega) (by decide), show ((nx : Int) + 1) % 40 = (((nx + 1) % 40 : Nat) : Int) by omega]
  refine go_putI fX0_21 rfl dX0_remember_44 rfl rfl rfl ?_
  refine go_aload_n dX0_remember_47 rfl ?_
  refine go_aload_n dX0_remember_48 rfl ?_
  refine go_getI fX0_17 dX0_remember_49 rfl ?_
  rw [sI_same, upd_ne _ _ _ _ (by decide), sI_ne _ _ _ _ (by decide), hA0]
  refine go_iconst (v := iI 1) dX0_remember_52 (by decide) ?_
  refine go_iadd dX0_remember_53 ?_
  rw [iI_add]
  refine go_bipush (v := iI 40) dX0_remember_54 (by decide) ?_
  refine go_min wX0_33 dX0_remember_56 (Nat.le_of_ble_eq_true rfl) ?_
  rw [iI_mn (by omega)]
  refine go_putI fX0_17 rfl dX0_remember_59 rfl rfl rfl ?_
  rw [sI_same, sI_sI]
  refine go_vret rfl dX0_remember_62 ?_
  refine hK _ ((FrS.rf.sI (by decide)).sI (by decide)) (AcC_put (nx := nx) hl hnx hO (by rw [sI_same, upd_same]) (by rw [sI_same, upd_ne _ _ _ _ (by decide), upd_same]) ⟨?_, ?_⟩ (fun j hj => ?_))
  · rw [sI_ne _ _ _ _ (by decide), sI_same]
    exact RwC_cg hr (fun i hi => upd_ne _ _ _ _ (by omega))
  · rw [sI_ne _ _ _ _ (by decide), sI_same, upd_same]
  · rw [sI_ne _ _ _ _ (by decide), sI_same, upd_ne _ _ _ _ (by omega), hrn _ (by omega)]

theorem ct_X0_forget {l : Launch} {D : va_G} {cA ad : Nat → Nat} {d : Nat} {σ : AS} {K : Option Value → AS → Prop}  (hK : K none (sI σ 93 (upd (σ.1 93) 0 (iI 0)))) : Call l D cA ad d mX0_forget [.ref 93] σ K := by
  refine call_go (by decide) (Nat.le_of_ble_eq_true rfl) (show Go l D cA ad d mX0_forget 0 [.ref 93] [] σ K from ?_)
  refine go_aload_n dX0_forget_0 rfl ?_
  refine go_iconst (v := iI 0) dX0_forget_1 (by decide) ?_
  refine go_putI fX0_17 rfl dX0_forget_2 rfl rfl rfl ?_
  refine go_vret rfl dX0_forget_5 ?_
  exact hK

theorem AcC_nil {σ : AS} {ac : List WT} (h : AcC σ ac) : AcC (sI σ 93 (upd (σ.1 93) 0 (iI 0))) [] := by
  obtain ⟨_, nx, h1, h2, _⟩ := h
  exact ⟨by rw [sI_same, upd_same]; rfl, nx, h1, by rw [sI_same, upd_ne _ _ _ _ (by decide)]; exact h2, fun j a ha => by simp at ha⟩
theorem ct_X0_takeBack {l : Launch} {D : va_G} {cA ad : Nat → Nat} {d : Nat} {σ : AS} {K : Option Value → AS → Prop} {ac : List WT} (hR : RO σ) (hl : ac.length ≤ 40) (hA : AcC σ ac) (hK1 : ac = [] → K (some (.int (iI 0))) σ) (hK2 : ∀ a l, ac = a :: l → ∀ τ, FrS [87, 88, 89, 90, 91, 93] σ τ → WC τ 87 a → τ.1 91 0 = iI (dy a) → AcC τ l → K (some (.int (iI 1))) τ) : Call l D cA ad (d + 2) mX0_takeBack [.ref 93, .ref 87, .ref 91] σ K := by
  refine call_go (by decide) (Nat.le_of_ble_eq_true rfl) (show Go l D cA ad (d + 2) mX0_takeBack 0 [.ref 93, .ref 87, .ref 91] [] σ K from ?_)
  obtain ⟨hA0, nx, hnx, hnx1, hO⟩ := hA
  refine go_aload_n dX0_takeBack_0 rfl ?_
  refine go_getI fX0_17 dX0_takeBack_1 rfl ?_
  refine go_iconst (v := iI 1) dX0_takeBack_4 (by decide) ?_
  refine go_icmp_ge (tgt := 10) dX0_takeBack_5 (by decide) (fun h5 => ?_) (fun h5 => ?_)
  · rw [hA0, iI_le (by omega)] at h5
    obtain ⟨a, l, rfl⟩ : ∃ a l, ac = a :: l := by
      cases ac with
      | nil => exact absurd h5 (by decide)
      | cons a l => exact ⟨a, l, rfl⟩
    have hq := hO 0 a rfl
    rw [show (nx + 39 - 0) % 40 = (nx + 39) % 40 by omega] at hq
    refine go_aload_n dX0_takeBack_10 rfl ?_
    refine go_aload_n dX0_takeBack_11 rfl ?_
    refine go_getI fX0_21 dX0_takeBack_12 rfl ?_
    rw [hnx1]
    refine go_bipush (v := iI 40) dX0_takeBack_15 (by decide) ?_
    refine go_iadd dX0_takeBack_17 ?_
    refine go_iconst (v := iI 1) dX0_takeBack_18 (by decide) ?_
    refine go_isub dX0_takeBack_19 ?_
    refine go_bipush (v := iI 40) dX0_takeBack_20 (by decide) ?_
    refine go_irem dX0_takeBack_22 (by decide) ?_
    rw [iI_add, iI_sub, iI_rem (by omega) (by decide), show ((nx : Int) + 40 - 1) % 40 = (((nx + 39) % 40 : Nat) : Int) by omega]
    refine go_putI fX0_21 rfl dX0_takeBack_23 rfl rfl rfl ?_
    refine go_aload_n dX0_takeBack_26 rfl ?_
    refine go_dup dX0_takeBack_27 rfl ?_
    refine go_getI fX0_17 dX0_takeBack_28 rfl ?_
    rw [sI_same, upd_ne _ _ _ _ (by decide), hA0]
    refine go_iconst (v := iI 1) dX0_takeBack_31 (by decide) ?_
    refine go_isub dX0_takeBack_32 ?_
    rw [iI_sub, show (((a :: l).length : Nat) : Int) - 1 = ((l.length : Nat) : Int) by rw [List.length_cons]; omega]
    refine go_putI fX0_17 rfl dX0_takeBack_33 rfl rfl rfl ?_
    rw [sI_same, sI_sI]
    refine go_aload_n dX0_takeBack_36 rfl ?_
    refine go_aload_n dX0_takeBack_37 rfl ?_
    refine go_getR fX0_13 dX0_takeBack_38 rfl (hR _ _ _ rfl) ?_
    refine go_aload_n dX0_takeBack_41 rfl ?_
    refine go_getI fX0_21 dX0_takeBack_42 rfl ?_
    refine go_bipush (v := iI 25) dX0_takeBack_45 (by decide) ?_
    refine go_imul dX0_takeBack_47 ?_
    rw [sI_same, upd_ne _ _ _ _ (by decide), upd_same, iI_mul, show ((((nx + 39) % 40 : Nat) : Int)) * 25 = ((25 * ((nx + 39) % 40) : Nat) : Int) by omega]
    refine go_callV (as := [_, _]) wX0_39 dX0_takeBack_48 rfl rfl rfl rfl (Nat.le_of_ble_eq_true rfl) (ct_X10_readFrom (w := a) hR (m := (nx + 39) % 40) (by omega) hq.1 (fun τ fr hW2 => ?_))
    refine go_aload_n dX0_takeBack_51 rfl ?_
    refine go_aload_n dX0_takeBack_52 rfl ?_
    refine go_getR fX0_13 dX0_takeBack_53 rfl (fr.RO hR _ _ _ rfl) ?_
    refine go_aload_n dX0_takeBack_56 rfl ?_
    refine go_getI fX0_21 dX0_takeBack_57 rfl ?_
    rw [fr.2 93 (by omega), sI_same, upd_ne _ _ _ _ (by decide), upd_same]
    refine go_bipush (v := iI 25) dX0_takeBack_60 (by decide) ?_
    refine go_imul dX0_takeBack_62 ?_
    refine go_bipush (v := iI 24) dX0_takeBack_63 (by decide) ?_
    refine go_iadd dX0_takeBack_65 ?_
    rw [iI_mul, iI_add, show ((((nx + 39) % 40 : Nat) : Int)) * 25 + 24 = ((25 * ((nx + 39) % 40) + 24 : Nat) : Int) by omega]
    refine go_iald dX0_takeBack_66 rfl (vp_iI (by omega)) ?_
    rw [cl_n _ (by omega), fr.2 94 (by omega), sI_ne _ _ _ _ (by decide), hq.2]
    refine go_putI fX0_28 rfl dX0_takeBack_67 rfl rfl rfl ?_
    refine go_iconst (v := iI 1) dX0_takeBack_70 (by decide) ?_
    refine go_iret rfl rfl dX0_takeBack_71 ?_
    refine hK2 a l rfl _ ((((FrS.rf (σ := σ)).sI (k := 93) (by decide)).tr (FrS.of fr (fun k h1 h2 => by have : k = 87 ∨ k = 88 ∨ k = 89 ∨ k = 90 := by omega
                                                                                                         rcases this with rfl | rfl | rfl | rfl <;> decide))).sI (by decide)) ?_ (by rw [sI_same, upd_same]) ?_
    · unfold WC
      rw [sI_ne _ _ _ _ (by decide), sI_ne _ _ _ _ (by decide), sI_ne _ _ _ _ (by decide), sI_ne _ _ _ _ (by decide)]
      exact hW2
    · refine ⟨?_, (nx + 39) % 40, by omega, ?_, fun j b hb => ?_⟩
      · rw [sI_ne _ _ _ _ (by decide), fr.2 93 (by omega), sI_same, upd_same]
      · rw [sI_ne _ _ _ _ (by decide), fr.2 93 (by omega), sI_same, upd_ne _ _ _ _ (by decide), upd_same]
      · have hj : j < 39 := by
          have := (List.getElem?_eq_some_iff.mp hb).1
          rw [List.length_cons] at hl
          omega
        have := hO (j + 1) b (by simpa using hb)
        rw [show (nx + 39 - (j + 1)) % 40 = ((nx + 39) % 40 + 39 - j) % 40 by omega] at this
        rw [sI_ne _ _ _ _ (by decide), fr.2 94 (by omega), sI_ne _ _ _ _ (by decide)]
        exact this
  · rw [hA0, iI_le (by omega)] at h5
    refine go_iconst (v := iI 0) dX0_takeBack_8 (by decide) ?_
    refine go_iret rfl rfl dX0_takeBack_9 ?_
    exact hK1 (by cases ac with | nil => rfl | cons a l => exact absurd (by rw [List.length_cons]; omega) h5)

theorem ct_X1_length {l : Launch} {D : va_G} {cA ad : Nat → Nat} {d : Nat} {σ : AS} {K : Option Value → AS → Prop} {T : Nat} (hT : σ.1 91 0 = iI T) (hT2 : T ≤ 100000) (hK : K (some (.int (iI (lgn T)))) σ) : Call l D cA ad (d + 1) mX1_length [.ref 91] σ K := by
  refine call_go (by decide) (Nat.le_of_ble_eq_true rfl) (show Go l D cA ad (d + 1) mX1_length 0 [.ref 91] [] σ K from ?_)
  refine go_aload_n dX1_length_0 rfl ?_
  refine go_getI fX1_15 dX1_length_1 rfl ?_
  refine go_bipush (v := iI 60) dX1_length_4 (by decide) ?_
  rw [hT]
  refine go_min wX1_19 dX1_length_6 (Nat.le_of_ble_eq_true rfl) ?_
  rw [iI_mn (by omega)]
  refine go_iret rfl rfl dX1_length_9 ?_
  have e : mn (T : Int) 60 = (lgn T : Int) := by unfold mn lgn; split <;> split <;> omega
  rw [e]
  exact hK

theorem ct_X1_add {l : Launch} {D : va_G} {cA ad : Nat → Nat} {d : Nat} {σ : AS} {K : Option Value → AS → Prop} {T : Nat} {e : Nat → Int} (hR : RO σ) (hT : σ.1 91 0 = iI T) (hT2 : T ≤ 100000) (hK : ∀ τ, FrS [91, 92] σ τ → τ.1 91 0 = iI ((T : Int) + 1) → (∀ k, k < 3 → τ.1 92 (3 * (T % 100) + k) = iI (e k)) → (∀ j, (∀ k, k < 3 → j ≠ 3 * (T % 100) + k) → τ.1 92 j = σ.1 92 j) → K none τ) : Call l D cA ad d mX1_add [.ref 91, .int (iI (e 0)), .int (iI (e 1)), .int (iI (e 2))] σ K := by
  refine call_go (by decide) (Nat.le_of_ble_eq_true rfl) (show Go l D cA ad d mX1_add 0 [.ref 91, .int (iI (e 0)), .int (iI (e 1)), .int (iI (e 2)), .null] [] σ K from ?_)
  refine go_aload_n dX1_add_0 rfl ?_
  refine go_getI fX1_15 dX1_add_1 rfl ?_
  rw [hT]
  refine go_bipush (v := iI 100) dX1_add_4 (by decide) ?_
  refine go_irem dX1_add_6 (by decide) ?_
  refine go_iconst (v := iI 3) dX1_add_7 (by decide) ?_
  refine go_imul dX1_add_8 ?_
  rw [iI_rem (by omega) (by decide), iI_mul, show (T : Int) % 100 * 3 = ((3 * (T % 100) : Nat) : Int) by omega]
  refine go_istore dX1_add_9 (Nat.le_of_ble_eq_true rfl) rfl ?_
  refine go_iload dX1_add_11 rfl ?_
  refine go_if_lt (tgt := 28) dX1_add_13 (by decide) (fun h13 => ?_) (fun h13 => ?_)
  · exfalso
    rw [iI_lt0 (by omega)] at h13
    omega
  · refine go_iload dX1_add_16 rfl ?_
    refine go_iconst (v := iI 2) dX1_add_18 (by decide) ?_
    refine go_iadd dX1_add_19 ?_
    refine go_aload_n dX1_add_20 rfl ?_
    refine go_getR fX1_11 dX1_add_21 rfl (hR _ _ _ rfl) ?_
    refine go_alen1 dX1_add_24 rfl ?_
    refine go_icmp_lt (tgt := 29) dX1_add_25 (by decide) (fun h25 => ?_) (fun h25 => ?_)
    · refine go_aload_n dX1_add_29 rfl ?_
      refine go_getR fX1_11 dX1_add_30 rfl (hR _ _ _ rfl) ?_
      refine go_iload dX1_add_33 rfl ?_
      refine go_iload_n dX1_add_35 rfl ?_
      refine go_iast dX1_add_36 rfl (vp_iI (by omega)) ?_
      rw [cl_n _ (by omega)]
      refine go_aload_n dX1_add_37 rfl ?_
      refine go_getR fX1_11 dX1_add_38 rfl (hR _ _ _ rfl) ?_
      refine go_iload dX1_add_41 rfl ?_
      refine go_iconst (v := iI 1) dX1_add_43 (by decide) ?_
      refine go_iadd dX1_add_44 ?_
      refine go_iload_n dX1_add_45 rfl ?_
      refine go_iast dX1_add_46 rfl (by rw [iI_add]; exact vp_iI (by omega)) ?_
      rw [iI_add, show ((3 * (T % 100) : Nat) : Int) + 1 = ((3 * (T % 100) + 1 : Nat) : Int) by omega, cl_n _ (by omega), sI_same, sI_sI]
      refine go_aload_n dX1_add_47 rfl ?_
      refine go_getR fX1_11 dX1_add_48 rfl (hR _ _ _ rfl) ?_
      refine go_iload dX1_add_51 rfl ?_
      refine go_iconst (v := iI 2) dX1_add_53 (by decide) ?_
      refine go_iadd dX1_add_54 ?_
      refine go_iload_n dX1_add_55 rfl ?_
      refine go_iast dX1_add_56 rfl (by rw [iI_add]; exact vp_iI (by omega)) ?_
      rw [iI_add, show ((3 * (T % 100) : Nat) : Int) + 2 = ((3 * (T % 100) + 2 : Nat) : Int) by omega, cl_n _ (by omega), sI_same, sI_sI]
      refine go_aload_n dX1_add_57 rfl ?_
      refine go_dup dX1_add_58 rfl ?_
      refine go_getI fX1_15 dX1_add_59 rfl ?_
      rw [sI_ne _ _ _ _ (by decide), hT]
      refine go_iconst (v := iI 1) dX1_add_62 (by decide) ?_
      refine go_iadd dX1_add_63 ?_
      rw [iI_add]
      refine go_putI fX1_15 rfl dX1_add_64 rfl rfl rfl ?_
      rw [sI_ne _ _ _ _ (by decide)]
      refine go_vret rfl dX1_add_67 ?_
      refine hK _ ((FrS.rf.sI (by decide)).sI (by decide)) (by rw [sI_same, upd_same]) (fun k hk => ?_) (fun j hj => ?_)
      · rw [sI_ne _ _ _ _ (by decide), sI_same]
        rcases (show k = 0 ∨ k = 1 ∨ k = 2 by omega) with rfl | rfl | rfl
        · rw [upd_ne _ _ _ _ (by omega), upd_ne _ _ _ _ (by omega)]; exact upd_same _ _ _
        · rw [upd_ne _ _ _ _ (by omega)]; exact upd_same _ _ _
        · exact upd_same _ _ _
      · rw [sI_ne _ _ _ _ (by decide), sI_same, upd_ne _ _ _ _ (hj 2 (by decide)), upd_ne _ _ _ _ (hj 1 (by decide)), upd_ne _ _ _ _ (show j ≠ 3 * (T % 100) from hj 0 (by decide))]
    · exfalso
      rw [iI_add, show Int32.ofNat 300 = iI 300 from rfl, iI_lt (by omega)] at h25
      omega

theorem ct_X1_entry {l : Launch} {D : va_G} {cA ad : Nat → Nat} {d : Nat} {σ : AS} {K : Option Value → AS → Prop} {T : Nat} {lg : LG} {i k : Int} (hR : RO σ) (hT : σ.1 91 0 = iI T) (hT2 : T ≤ 100000) (hi : -2147483648 ≤ i ∧ i < 2147483648) (hk : -2147483648 ≤ k ∧ k < 2147483648) (hC : ∀ i k, i < T → T ≤ i + 60 → k < 3 → σ.1 92 (3 * (i % 100) + k) = iI (lg i k)) (hK : K (some (.int (iI (logF lg T i k)))) σ) : Call l D cA ad (d + 2) mX1_entry [.ref 91, .int (iI i), .int (iI k)] σ K := by
  have hlg : lgn T ≤ 60 ∧ lgn T ≤ T := by unfold lgn; split <;> omega
  refine call_go (by decide) (Nat.le_of_ble_eq_true rfl) (show Go l D cA ad (d + 2) mX1_entry 0 [.ref 91, .int (iI i), .int (iI k)] [] σ K from ?_)
  refine go_iload_n dX1_entry_0 rfl ?_
  refine go_if_lt (tgt := 21) dX1_entry_1 (by decide) (fun h1 => ?_) (fun h1 => ?_)
  · rw [iI_lt0 (by omega)] at h1
    refine go_iconst (v := iI (-1)) dX1_entry_21 (by decide) ?_
    refine go_iret rfl rfl dX1_entry_22 ?_
    have e : logF lg T i k = -1 := by unfold logF; rw [if_neg (by omega)]
    rw [e] at hK
    exact hK
  · rw [iI_lt0 (by omega)] at h1
    refine go_iload_n dX1_entry_4 rfl ?_
    refine go_aload_n dX1_entry_5 rfl ?_
    refine go_callV (as := []) wX1_31 dX1_entry_6 rfl rfl rfl rfl (Nat.le_of_ble_eq_true rfl) (ct_X1_length hT hT2 ?_)
    refine go_icmp_ge (tgt := 21) dX1_entry_9 (by decide) (fun h9 => ?_) (fun h9 => ?_)
    · rw [iI_le (by omega)] at h9
      refine go_iconst (v := iI (-1)) dX1_entry_21 (by decide) ?_
      refine go_iret rfl rfl dX1_entry_22 ?_
      have e : logF lg T i k = -1 := by unfold logF; rw [if_neg (by omega)]
      rw [e] at hK
      exact hK
    · rw [iI_le (by omega)] at h9
      refine go_iload_n dX1_entry_12 rfl ?_
      refine go_if_lt (tgt := 21) dX1_entry_13 (by decide) (fun h13 => ?_) (fun h13 => ?_)
      · rw [iI_lt0 (by omega)] at h13
        refine go_iconst (v := iI (-1)) dX1_entry_21 (by decide) ?_
        refine go_iret rfl rfl dX1_entry_22 ?_
        have e : logF lg T i k = -1 := by unfold logF; rw [if_neg (by omega)]
        rw [e] at hK
        exact hK
      · rw [iI_lt0 (by omega)] at h13
        refine go_iload_n dX1_entry_16 rfl ?_
        refine go_iconst (v := iI 3) dX1_entry_17 (by decide) ?_
        refine go_icmp_lt (tgt := 23) dX1_entry_18 (by decide) (fun h18 => ?_) (fun h18 => ?_)
        · rw [iI_lt (by omega)] at h18
          refine go_aload_n dX1_entry_23 rfl ?_
          refine go_getR fX1_11 dX1_entry_24 rfl (hR _ _ _ rfl) ?_
          refine go_aload_n dX1_entry_27 rfl ?_
          refine go_getI fX1_15 dX1_entry_28 rfl ?_
          rw [hT]
          refine go_iconst (v := iI 1) dX1_entry_31 (by decide) ?_
          refine go_isub dX1_entry_32 ?_
          refine go_iload_n dX1_entry_33 rfl ?_
          refine go_isub dX1_entry_34 ?_
          refine go_bipush (v := iI 100) dX1_entry_35 (by decide) ?_
          refine go_irem dX1_entry_37 (by decide) ?_
          rw [iI_sub, iI_sub, iI_rem (by omega) (by decide)]
          refine go_iconst (v := iI 3) dX1_entry_38 (by decide) ?_
          refine go_imul dX1_entry_39 ?_
          refine go_iload_n dX1_entry_40 rfl ?_
          refine go_iadd dX1_entry_41 ?_
          rw [iI_mul, iI_add]
          refine go_iald dX1_entry_42 rfl (vp_iI (by omega)) ?_
          refine go_iret rfl rfl dX1_entry_43 ?_
          obtain ⟨n, hn⟩ : ∃ n : Nat, i = n := ⟨i.toNat, by omega⟩
          obtain ⟨q, hq⟩ : ∃ q : Nat, k = q := ⟨k.toNat, by omega⟩
          have e : logF lg T i k = lg (T - 1 - n) q := by unfold logF; rw [if_pos (by omega), hn, hq, Int.toNat_natCast, Int.toNat_natCast]
          rw [e] at hK
          rw [iI_cl (by omega), show ((T : Int) - 1 - i) % 100 * 3 + k = ((3 * ((T - 1 - n) % 100) + q : Nat) : Int) by omega, Int.toNat_natCast, hC (T - 1 - n) q (by omega) (by omega) (by omega)]
          exact hK
        · rw [iI_lt (by omega)] at h18
          refine go_iconst (v := iI (-1)) dX1_entry_21 (by decide) ?_
          refine go_iret rfl rfl dX1_entry_22 ?_
          have e : logF lg T i k = -1 := by unfold logF; rw [if_neg (by omega)]
          rw [e] at hK
          exact hK

theorem ct_become91 {l : Launch} {D : va_G} {cA ad : Nat → Nat} {d : Nat} {σ : AS} {K : Option Value → AS → Prop}  (hR : RO σ) (hK : ∀ τ, FrS [91, 92] σ τ → τ.1 91 0 = σ.1 99 0 → (∀ i, i < 300 → τ.1 92 i = σ.1 100 i) → K none τ) : Call l D cA ad (d + 1) mX1_become [.ref 91, .ref 99] σ K := by
  refine call_go (by decide) (Nat.le_of_ble_eq_true rfl) (show Go l D cA ad (d + 1) mX1_become 0 [.ref 91, .ref 99] [] σ K from ?_)
  refine go_aload_n dX1_become_0 rfl ?_
  refine go_getR fX1_11 dX1_become_1 rfl (hR _ _ _ rfl) ?_
  refine go_iconst (v := iI 0) dX1_become_4 (by decide) ?_
  refine go_aload_n dX1_become_5 rfl ?_
  refine go_getR fX1_11 dX1_become_6 rfl (hR _ _ _ rfl) ?_
  refine go_iconst (v := iI 0) dX1_become_9 (by decide) ?_
  refine go_aload_n dX1_become_10 rfl ?_
  refine go_getR fX1_11 dX1_become_11 rfl (hR _ _ _ rfl) ?_
  refine go_alen1 dX1_become_14 rfl ?_
  rw [show Int32.ofNat 300 = iI ((300 : Nat) : Int) from rfl]
  refine go_cpyN (sp := 0) (dp := 0) (n := 300) rfl rfl wX1_25 dX1_become_15 (by decide) (by decide) (by decide) (Nat.le_of_ble_eq_true rfl) (fun x hx hxn => ?_)
  refine go_aload_n dX1_become_18 rfl ?_
  refine go_aload_n dX1_become_19 rfl ?_
  refine go_getI fX1_15 dX1_become_20 rfl ?_
  rw [sI_ne _ _ _ _ (by decide)]
  refine go_putI fX1_15 rfl dX1_become_23 rfl rfl rfl ?_
  rw [sI_ne _ _ _ _ (by decide)]
  refine go_vret rfl dX1_become_26 ?_
  refine hK _ ((FrS.rf.sI (by decide)).sI (by decide)) (by rw [sI_same, upd_same]) (fun i hi => ?_)
  rw [sI_ne _ _ _ _ (by decide), sI_same]
  have := hx i hi
  rwa [Nat.zero_add] at this

theorem ct_become99 {l : Launch} {D : va_G} {cA ad : Nat → Nat} {d : Nat} {σ : AS} {K : Option Value → AS → Prop}  (hR : RO σ) (hK : ∀ τ, FrS [99, 100] σ τ → τ.1 99 0 = σ.1 91 0 → (∀ i, i < 300 → τ.1 100 i = σ.1 92 i) → K none τ) : Call l D cA ad (d + 1) mX1_become [.ref 99, .ref 91] σ K := by
  refine call_go (by decide) (Nat.le_of_ble_eq_true rfl) (show Go l D cA ad (d + 1) mX1_become 0 [.ref 99, .ref 91] [] σ K from ?_)
  refine go_aload_n dX1_become_0 rfl ?_
  refine go_getR fX1_11 dX1_become_1 rfl (hR _ _ _ rfl) ?_
  refine go_iconst (v := iI 0) dX1_become_4 (by decide) ?_
  refine go_aload_n dX1_become_5 rfl ?_
  refine go_getR fX1_11 dX1_become_6 rfl (hR _ _ _ rfl) ?_
  refine go_iconst (v := iI 0) dX1_become_9 (by decide) ?_
  refine go_aload_n dX1_become_10 rfl ?_
  refine go_getR fX1_11 dX1_become_11 rfl (hR _ _ _ rfl) ?_
  refine go_alen1 dX1_become_14 rfl ?_
  rw [show Int32.ofNat 300 = iI ((300 : Nat) : Int) from rfl]
  refine go_cpyN (sp := 0) (dp := 0) (n := 300) rfl rfl wX1_25 dX1_become_15 (by decide) (by decide) (by decide) (Nat.le_of_ble_eq_true rfl) (fun x hx hxn => ?_)
  refine go_aload_n dX1_become_18 rfl ?_
  refine go_aload_n dX1_become_19 rfl ?_
  refine go_getI fX1_15 dX1_become_20 rfl ?_
  rw [sI_ne _ _ _ _ (by decide)]
  refine go_putI fX1_15 rfl dX1_become_23 rfl rfl rfl ?_
  rw [sI_ne _ _ _ _ (by decide)]
  refine go_vret rfl dX1_become_26 ?_
  refine hK _ ((FrS.rf.sI (by decide)).sI (by decide)) (by rw [sI_same, upd_same]) (fun i hi => ?_)
  rw [sI_ne _ _ _ _ (by decide), sI_same]
  have := hx i hi
  rwa [Nat.zero_add] at this

theorem ct_X11_passDay {l : Launch} {D : va_G} {cA ad : Nat → Nat} {d : Nat} {σ : AS} {K : Option Value → AS → Prop} {s : PS} {w : WT} {Ls : LwT} {h : Int} {rain : Int} (hR : RO σ) (hT : TwC σ s) (hS : TwK s) (hW : WC σ 87 w) (hw : WK s w) (hLk : LsK Ls h) (hL : LsC σ Ls h) (hr : 0 ≤ rain ∧ rain ≤ 1000) (hd : dy w < 20000) (hch : σ.1 91 0 = iI (dy w)) (hK : ∀ τ, FrS [52, 53, 56, 57, 60, 61, 64, 65, 87, 88, 89, 90, 91, 92] σ τ → WC τ 87 (dayF s (hLw Ls h) rain w) → τ.1 91 0 = iI ((dy w : Int) + 1) → (∀ k, k < 3 → τ.1 92 (3 * (dy w % 100) + k) = iI (enF s (dayF s (hLw Ls h) rain w) k)) → (∀ j, (∀ k, k < 3 → j ≠ 3 * (dy w % 100) + k) → τ.1 92 j = σ.1 92 j) → K none τ) : Call l D cA ad (d + 5) mX11_passDay [.ref 0, .int (iI rain)] σ K := by
  refine call_go (by decide) (Nat.le_of_ble_eq_true rfl) (show Go l D cA ad (d + 5) mX11_passDay 0 [.ref 0, .int (iI rain)] [] σ K from ?_)
  refine go_aload_n dX11_passDay_0 rfl ?_
  refine go_getR fX11_40 dX11_passDay_1 rfl (hR _ _ _ rfl) ?_
  refine go_aload_n dX11_passDay_4 rfl ?_
  refine go_getR fX11_58 dX11_passDay_5 rfl (hR _ _ _ rfl) ?_
  refine go_iload_n dX11_passDay_8 rfl ?_
  refine go_callV (as := [_, _]) wX11_398 dX11_passDay_9 rfl rfl rfl rfl (Nat.le_of_ble_eq_true rfl) (ct_X2_passDay hR hT hS WB_87 hW hw (by decide) hLk hL hr (fun τ fr hW2 => ?_))
  have hR2 := fr.RO hR
  have hT2 := fr.twc (by decide) hS hT
  have hw2 := (dayF_ok (hv := hLw Ls h) hS hw hr.1 hd).1
  have e0 : suF (wa (dayF s (hLw Ls h) rain w)) 7 = enF s (dayF s (hLw Ls h) rain w) 0 := suF_7 (fun i hi => (hw2.2.1 i hi).1) hS.1
  have e2 : suF (ca (dayF s (hLw Ls h) rain w)) 7 = enF s (dayF s (hLw Ls h) rain w) 2 := suF_7 (fun i hi => (hw2.2.1 i hi).2.1) hS.1
  refine go_aload_n dX11_passDay_12 rfl ?_
  refine go_getR fX11_65 dX11_passDay_13 rfl (hR2 _ _ _ rfl) ?_
  refine go_aload_n dX11_passDay_16 rfl ?_
  refine go_getR fX11_58 dX11_passDay_17 rfl (hR2 _ _ _ rfl) ?_
  refine go_getR fX11_149 dX11_passDay_20 rfl (hR2 _ _ _ rfl) ?_
  refine go_callS (as := [_]) wX11_338 dX11_passDay_23 rfl rfl (Nat.le_of_ble_eq_true rfl) (ct_X10_sumOf (f := wa (dayF s (hLw Ls h) rain w)) rfl (fun i hi => (hW2.1 i hi).1) ?_)
  rw [e0]
  refine go_aload_n dX11_passDay_26 rfl ?_
  refine go_getR fX11_19 dX11_passDay_27 rfl (hR2 _ _ _ rfl) ?_
  refine go_aload_n dX11_passDay_30 rfl ?_
  refine go_getR fX11_58 dX11_passDay_31 rfl (hR2 _ _ _ rfl) ?_
  refine go_callV (as := [_]) wX11_237 dX11_passDay_34 rfl rfl rfl rfl (Nat.le_of_ble_eq_true rfl) (ct_X9_bareAmong hR2 hT2 hS WB_87 hW2 hw2 ?_)
  refine go_aload_n dX11_passDay_37 rfl ?_
  refine go_getR fX11_58 dX11_passDay_38 rfl (hR2 _ _ _ rfl) ?_
  refine go_getR fX11_152 dX11_passDay_41 rfl (hR2 _ _ _ rfl) ?_
  refine go_callS (as := [_]) wX11_338 dX11_passDay_44 rfl rfl (Nat.le_of_ble_eq_true rfl) (ct_X10_sumOf (f := ca (dayF s (hLw Ls h) rain w)) rfl (fun i hi => (hW2.1 i hi).2.1) ?_)
  rw [e2, show ((barF s (dayF s (hLw Ls h) rain w) : Nat) : Int) = enF s (dayF s (hLw Ls h) rain w) 1 from rfl]
  refine go_callV (as := [_, _, _]) wX11_401 dX11_passDay_47 rfl rfl rfl rfl (Nat.le_of_ble_eq_true rfl) (ct_X1_add (T := dy w) (e := enF s (dayF s (hLw Ls h) rain w)) hR2 (by rw [fr.lo (by decide) (by decide)]; exact hch) (by have := hw.2.2.2; omega) (fun ρ fs a1 a2 a3 => ?_))
  refine go_vret rfl dX11_passDay_50 ?_
  refine hK ρ ((FrS.ofW fr (fun i hi => ?_) (fun k h1 h2 => ?_)).tr (fs.mono (fun k hk => ?_))) ?_ a1 a2 (fun j hj => ?_)
  · rcases (show i = 0 ∨ i = 1 ∨ i = 2 ∨ i = 3 by omega) with rfl | rfl | rfl | rfl <;> decide
  · rcases (show k = 87 ∨ k = 88 ∨ k = 89 ∨ k = 90 by omega) with rfl | rfl | rfl | rfl <;> decide
  · revert hk; revert k; decide
  · unfold WC
    rw [fs.2 _ (by decide), fs.2 _ (by decide), fs.2 _ (by decide), fs.2 _ (by decide)]
    exact hW2
  · rw [a3 j hj, fr.lo (by decide) (by decide)]

