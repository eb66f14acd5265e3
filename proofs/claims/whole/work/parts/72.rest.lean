/-! shares, rest -/
theorem tb_iff {g i : Nat} : g.testBit i = true ↔ g / 2 ^ i % 2 = 1 := by rw [Nat.testBit_eq_decide_div_mod_eq]; simp
theorem tb_not {g i : Nat} : g.testBit i = false ↔ g / 2 ^ i % 2 = 0 := by
  rw [Nat.testBit_eq_decide_div_mod_eq]
  simp
def clsS (s : PS) (m S : Nat) : Prop := ∀ k, k < nQ s → m / 2 ^ k % 2 = 1 → S &&& ownF s k ≠ 0 → sbS (ownF s k) S
theorem and_ne {a b : Nat} : a &&& b ≠ 0 ↔ ∃ i, a.testBit i = true ∧ b.testBit i = true := by
  constructor
  · intro h
    obtain ⟨i, hi⟩ := Nat.exists_testBit_of_ne_zero h
    rw [Nat.testBit_and] at hi
    exact ⟨i, by simpa using hi⟩
  · rintro ⟨i, h1, h2⟩ h
    have : (a &&& b).testBit i = true := by rw [Nat.testBit_and, h1, h2]; rfl
    rw [h] at this
    simp at this
theorem grp_cl {s : PS} (hS : TwK s) {m p : Nat} (hp : p < nP s) : clsS s m (grpF s m p) := by
  have hfix : rdF s m (grpF s m p) = grpF s m p := by
    have h := grF_fix hS (m := m) hp
    have h2 : rdF s m (grF s m p (nP s - 1)) = grF s m p (nP s - 1 + 1) := rfl
    rw [show nP s - 1 + 1 = nP s by omega, h] at h2
    exact h2
  intro k hk h1 h2
  have a1 : sbS (grpF s m p) (pgF s m (grpF s m p) k) := by have := pgF_sb (s := s) (m := m) (g := grpF s m p) 0 k; rwa [Nat.zero_add] at this
  have a2 : sbS (pgF s m (grpF s m p) (k + 1)) (grpF s m p) := by
    have := pgF_sb (s := s) (m := m) (g := grpF s m p) (k + 1) (nQ s - (k + 1))
    rw [show k + 1 + (nQ s - (k + 1)) = nQ s by omega] at this
    rw [show pgF s m (grpF s m p) (nQ s) = grpF s m p from hfix] at this
    exact this
  have a3 : sbS (pgF s m (grpF s m p) k) (pgF s m (grpF s m p) (k + 1)) := stG_sb
  have e : pgF s m (grpF s m p) k = grpF s m p := sbS_as (sbS_tr a3 a2) a1
  have e2 : pgF s m (grpF s m p) (k + 1) = stG s m k (pgF s m (grpF s m p) k) := rfl
  rw [e, stG_y h1 h2] at e2
  rw [e2] at a2
  refine sbS_tr ?_ a2
  rw [Nat.or_comm]
  exact sbS_or
theorem grp_min {s : PS} {m p S : Nat} (hc : clsS s m S) (hp : sbS (2 ^ p) S) : ∀ r, sbS (grF s m p r) S
  | 0 => hp
  | r + 1 => by
    have ih := grp_min hc hp r
    show sbS (pgF s m (grF s m p r) (nQ s)) S
    have : ∀ k, k ≤ nQ s → sbS (pgF s m (grF s m p r) k) S := by
      intro k
      induction k with
      | zero => intro _; exact ih
      | succ k ihk =>
        intro hk
        have h1 := ihk (by omega)
        show sbS (stG s m k _) S
        unfold stG
        split
        · rename_i hq
          refine sbS_un h1 (hc k (by omega) hq.1 ?_)
          obtain ⟨i, q1, q2⟩ := and_ne.mp hq.2
          exact and_ne.mpr ⟨i, sbS_iff.mp h1 i q1, q2⟩
        · exact h1
    exact this _ (Nat.le_refl _)
theorem pw_sb {p S : Nat} : sbS (2 ^ p) S ↔ S.testBit p = true := by
  rw [sbS_iff]
  constructor
  · intro h; exact h p (by rw [Nat.testBit_two_pow]; simp)
  · intro h i hi
    rw [Nat.testBit_two_pow] at hi
    have : p = i := by simpa using hi
    rw [← this]; exact h
theorem grp_self {s : PS} {m p : Nat} : (grpF s m p).testBit p = true := by
  rw [← pw_sb]
  have : ∀ r, sbS (2 ^ p) (grF s m p r) := by
    intro r
    induction r with
    | zero => exact sbS_rf
    | succ r ih => exact sbS_tr ih (by have := pgF_sb (s := s) (m := m) (g := grF s m p r) 0 (nQ s); rwa [Nat.zero_add] at this)
  exact this _
theorem grp_tr {s : PS} (hS : TwK s) {m i j : Nat} (hi : i < nP s) (h : (grpF s m i).testBit j = true) : sbS (grpF s m j) (grpF s m i) := grp_min (grp_cl hS hi) (pw_sb.mpr h) _
theorem grp_sy {s : PS} (hS : TwK s) {m i j : Nat} (hi : i < nP s) (hj : j < nP s) (h : (grpF s m i).testBit j = true) : (grpF s m j).testBit i = true := by
  cases hx : (grpF s m j).testBit i with
  | true => rfl
  | false =>
    exfalso
    have hb : ∀ x, (grpF s m i ^^^ (grpF s m i &&& grpF s m j)).testBit x = ((grpF s m i).testBit x && !(grpF s m j).testBit x) := by
      intro x
      rw [Nat.testBit_xor, Nat.testBit_and]
      cases (grpF s m i).testBit x <;> cases (grpF s m j).testBit x <;> rfl
    have hcl : clsS s m (grpF s m i ^^^ (grpF s m i &&& grpF s m j)) := by
      intro k hk h1 h2
      obtain ⟨x, q1, q2⟩ := and_ne.mp h2
      rw [hb] at q1
      have q3 : (grpF s m i).testBit x = true ∧ (grpF s m j).testBit x = false := by
        revert q1
        cases (grpF s m i).testBit x <;> cases (grpF s m j).testBit x <;> simp
      have o1 := grp_cl hS hi k hk h1 (and_ne.mpr ⟨x, q3.1, q2⟩)
      rw [sbS_iff]
      intro y hy
      rw [hb, sbS_iff.mp o1 y hy]
      cases hz : (grpF s m j).testBit y with
      | false => rfl
      | true =>
        have o2 := grp_cl hS hj k hk h1 (and_ne.mpr ⟨y, hz, hy⟩)
        have := sbS_iff.mp o2 x q2
        rw [q3.2] at this
        cases this
    have hm := grp_min hcl (p := i) (pw_sb.mpr (by rw [hb, grp_self, hx]; rfl)) (nP s)
    have := sbS_iff.mp hm j h
    rw [hb, grp_self, h] at this
    cases this
def seF (s : PS) (m : Nat) : Nat → Nat × Nat
  | 0 => (0, 0)
  | i + 1 => if (seF s m i).1 / 2 ^ i % 2 = 0 then ((seF s m i).1 ||| grpF s m i, (seF s m i).2 + 1) else seF s m i
def shF (s : PS) (m : Nat) : Nat → Nat
  | 0 => 0
  | i + 1 => if ntz (grpF s m i) = i then shF s m i + 1 else shF s m i
theorem ntz_ok : ∀ g, g < 128 → 0 < g → ∀ i, i < 7 → (ntz g = i ↔ g / 2 ^ i % 2 = 1 ∧ ∀ j, j < i → g / 2 ^ j % 2 = 0) := by decide +kernel
theorem grp_pos {s : PS} {m p : Nat} : 0 < grpF s m p := by
  cases h : grpF s m p with
  | zero =>
    have := grp_self (s := s) (m := m) (p := p)
    rw [h] at this
    simp at this
  | succ n => omega
theorem se_sh {s : PS} (hS : TwK s) {m : Nat} : ∀ i, i ≤ nP s → (seF s m i).2 = shF s m i ∧ (seF s m i).1 < 2 ^ nP s ∧ ∀ x, (seF s m i).1.testBit x = true ↔ ∃ j, j < i ∧ (grpF s m j).testBit x = true
  | 0, _ => ⟨rfl, Nat.pow_pos (by decide), fun x => ⟨fun h => by simp [seF] at h, fun ⟨j, h, _⟩ => by omega⟩⟩
  | i + 1, hi => by
    have hP7 := hS.1
    obtain ⟨h1, h2, h3⟩ := se_sh hS (m := m) i (by omega)
    have hg := grF_lt hS (m := m) (p := i) (by omega) (nP s)
    have hn := ntz_ok (grpF s m i) (p128 hS hg) grp_pos i (by omega)
    by_cases c : (seF s m i).1 / 2 ^ i % 2 = 0
    · have e1 : seF s m (i + 1) = ((seF s m i).1 ||| grpF s m i, (seF s m i).2 + 1) := if_pos c
      have hz : ntz (grpF s m i) = i := by
        rw [hn]
        refine ⟨tb_iff.mp grp_self, fun j hj => ?_⟩
        rw [← tb_not]
        cases hx : (grpF s m i).testBit j with
        | false => rfl
        | true =>
          exfalso
          have := grp_sy hS (by omega) (by omega) hx
          have h4 := (h3 i).mpr ⟨j, hj, this⟩
          rw [tb_iff] at h4
          omega
      have e2 : shF s m (i + 1) = shF s m i + 1 := if_pos hz
      rw [e1, e2]
      refine ⟨by dsimp only; omega, or_lt2 h2 hg, fun x => ?_⟩
      dsimp only
      rw [Nat.testBit_or]
      constructor
      · intro h
        cases hx : (grpF s m i).testBit x with
        | true => exact ⟨i, by omega, hx⟩
        | false =>
          rw [hx] at h
          obtain ⟨j, q1, q2⟩ := (h3 x).mp (by simpa using h)
          exact ⟨j, by omega, q2⟩
      · rintro ⟨j, q1, q2⟩
        by_cases hj : j = i
        · rw [← hj, q2]; simp
        · rw [(h3 x).mpr ⟨j, by omega, q2⟩]; rfl
    · have e1 : seF s m (i + 1) = seF s m i := if_neg c
      have hi1 : (seF s m i).1.testBit i = true := by rw [tb_iff]; omega
      obtain ⟨j, q1, q2⟩ := (h3 i).mp hi1
      have hz : ntz (grpF s m i) ≠ i := by
        intro hq
        have := (hn.mp hq).2 j q1
        rw [← tb_not, grp_sy hS (by omega) (by omega) q2] at this
        cases this
      have e2 : shF s m (i + 1) = shF s m i := if_neg hz
      rw [e1, e2]
      refine ⟨h1, h2, fun x => ?_⟩
      rw [h3 x]
      constructor
      · rintro ⟨a, b1, b2⟩; exact ⟨a, by omega, b2⟩
      · rintro ⟨a, b1, b2⟩
        by_cases ha : a = i
        · exact ⟨j, q1, sbS_iff.mp (grp_tr hS (by omega) q2) x (ha ▸ b2)⟩
        · exact ⟨a, by omega, b2⟩
theorem shF_le (s : PS) (m : Nat) : ∀ i, shF s m i ≤ i
  | 0 => Nat.le_refl _
  | i + 1 => by have := shF_le s m i; unfold shF; split <;> omega
def sharesA (X : XS) : Int := if 0 < nP (xs X) then (shF (xs X) (opn (xw X)) (nP (xs X)) : Int) else -1
def waG (w : WT) (g n : Nat) : Int := suF (fun i => ((g / 2 ^ i % 2 : Nat) : Int) * wa w i) n
def heG (s : PS) (g L n : Nat) : Int := suF (fun i => ((g / 2 ^ i % 2 : Nat) : Int) * mx 0 ((L : Int) - pd s i 2)) n
def rsF (s : PS) (g : Nat) (W : Int) : Nat → Nat → Int
  | 0, _ => -1
  | n + 1, L => if W ≤ heG s g L (nP s) then (L : Int) else rsF s g W n (L + 1)
def restA (X : XS) (p : Int) : Int := if 0 ≤ p ∧ p < nP (xs X) then rsF (xs X) (grpF (xs X) (opn (xw X)) p.toNat) (waG (xw X) (grpF (xs X) (opn (xw X)) p.toNat) (nP (xs X))) 1000 0 else -1
theorem waG_bd {s : PS} {w : WT} (hS : TwK s) (hw : WK s w) (g : Nat) : ∀ n, n ≤ 7 → 0 ≤ waG w g n ∧ waG w g n ≤ 99 * n
  | 0, _ => by unfold waG suF; omega
  | n + 1, h => by
    have ih := waG_bd hS hw g n (by omega)
    have h7 := wk7 hS hw n
    have hb := bit_01 g n
    unfold waG at ih ⊢
    unfold suF
    rcases hb with hb | hb <;> rw [hb] <;> simp only [Int.natCast_zero, Int.zero_mul, Int.natCast_one, Int.one_mul] <;> omega
theorem heG_bd {s : PS} (hS : TwK s) (g L : Nat) (hL : L ≤ 1000) : ∀ n, n ≤ nP s → 0 ≤ heG s g L n ∧ heG s g L n ≤ 1000 * n
  | 0, _ => by unfold heG suF; omega
  | n + 1, h => by
    have ih := heG_bd hS g L hL n (by omega)
    have hpi := hS.2.2.2.1 n (by omega)
    unfold PdK at hpi
    have hb := bit_01 g n
    have hm := mx_or 0 ((L : Int) - pd s n 2)
    unfold heG at ih ⊢
    unfold suF
    rcases hb with hb | hb <;> rw [hb] <;> simp only [Int.natCast_zero, Int.zero_mul, Int.natCast_one, Int.one_mul] <;> omega
theorem rest_end {s : PS} {w : WT} (hS : TwK s) (hw : WK s w) (g : Nat) : ∀ n, n ≤ nP s → waG w g n ≤ heG s g 108 n
  | 0, _ => by unfold waG heG suF; omega
  | n + 1, h => by
    have ih := rest_end hS hw g n (by omega)
    have hpi := hS.2.2.2.1 n (by omega)
    unfold PdK at hpi
    have h7 := hw.1 n (by omega)
    have hb := bit_01 g n
    have hm := mx_or 0 (((108 : Nat) : Int) - pd s n 2)
    unfold waG heG at ih ⊢
    unfold suF
    rcases hb with hb | hb <;> rw [hb] <;> simp only [Int.natCast_zero, Int.zero_mul, Int.natCast_one, Int.one_mul] <;> omega
theorem gs6 {l : Launch} {D : va_G} {cA ad : Nat → Nat} {d : Nat} {σ : AS} {K : Option Value → AS → Prop} {s : PS} {m : Nat} (hR : RO σ) (hT : TwC σ s) (hS : TwK s) (hm : m < 512) (ho : σ.1 87 3 = iI m) (hK : K (some (.int (iI (shF s m (nP s) : Nat)))) σ) : ∀ i : Nat, i ≤ nP s → Go l D cA ad (d + 1) mX6_groups 6 [.ref 105, .int (iI ((seF s m i).1 : Nat)), .int (iI ((seF s m i).2 : Nat)), .int (iI i)] [] σ K := by
  have hP7 := hS.1
  refine up_loop ?_ (fun i hi ih => ?_)
  · refine go_iload_n dX6_groups_6 rfl ?_
    refine go_aload_n dX6_groups_7 rfl ?_
    refine go_getR fX6_22 dX6_groups_8 rfl (hR _ _ _ rfl) ?_
    refine go_getI fX6_119 dX6_groups_11 rfl ?_
    refine go_icmp_ge (tgt := 52) dX6_groups_14 (by decide) (fun h14 => ?_) (fun h14 => ?_)
    · refine go_iload_n dX6_groups_52 rfl ?_
      refine go_iret rfl rfl dX6_groups_53 ?_
      rw [(se_sh hS (nP s) (Nat.le_refl _)).1]
      exact hK
    · exfalso
      rw [hT.1, iI_le (by omega)] at h14
      omega
  · refine go_iload_n dX6_groups_6 rfl ?_
    refine go_aload_n dX6_groups_7 rfl ?_
    refine go_getR fX6_22 dX6_groups_8 rfl (hR _ _ _ rfl) ?_
    refine go_getI fX6_119 dX6_groups_11 rfl ?_
    refine go_icmp_ge (tgt := 52) dX6_groups_14 (by decide) (fun h14 => ?_) (fun h14 => ?_)
    · exfalso
      rw [hT.1, iI_le (by omega)] at h14
      omega
    · have hse := se_sh hS (m := m) i (by omega)
      have hs1 := p128 hS hse.2.1
      have hgl := grp_lt hS (m := m) hi
      refine go_iload_n dX6_groups_17 rfl ?_
      refine go_iload_n dX6_groups_18 rfl ?_
      refine go_ishr dX6_groups_19 ?_
      refine go_iconst (v := iI 1) dX6_groups_20 (by decide) ?_
      refine go_iand dX6_groups_21 ?_
      rw [b_get _ (by omega) i (by omega)]
      refine go_if_ne (tgt := 46) dX6_groups_22 (by decide) (fun h22 => ?_) (fun h22 => ?_)
      · rw [iI_eq0 (by omega)] at h22
        refine go_iincI dX6_groups_46 rfl (Nat.le_of_ble_eq_true rfl) rfl ?_
        refine go_goto (tgt := 6) dX6_groups_49 (by decide) ?_
        simp only [List.set, iI_add]
        have e : seF s m (i + 1) = seF s m i := if_neg (by omega)
        rw [e] at ih
        exact ih
      · rw [iI_eq0 (by omega)] at h22
        refine go_iload_n dX6_groups_25 rfl ?_
        refine go_aload_n dX6_groups_26 rfl ?_
        refine go_getR fX6_22 dX6_groups_27 rfl (hR _ _ _ rfl) ?_
        refine go_iload_n dX6_groups_30 rfl ?_
        refine go_aload_n dX6_groups_31 rfl ?_
        refine go_getR fX6_30 dX6_groups_32 rfl (hR _ _ _ rfl) ?_
        refine go_getI fX6_37 dX6_groups_35 rfl ?_
        rw [ho]
        refine go_callV (as := [_, _]) wX6_128 dX6_groups_38 rfl rfl rfl rfl (Nat.le_of_ble_eq_true rfl) (ct_X9_groupOf hR hT hS hm hi ?_)
        refine go_ior dX6_groups_41 ?_
        rw [b_or2 _ hs1 _ hgl]
        refine go_istore_n dX6_groups_42 (Nat.le_of_ble_eq_true rfl) rfl ?_
        refine go_iincI dX6_groups_43 rfl (Nat.le_of_ble_eq_true rfl) rfl ?_
        refine go_iincI dX6_groups_46 rfl (Nat.le_of_ble_eq_true rfl) rfl ?_
        refine go_goto (tgt := 6) dX6_groups_49 (by decide) ?_
        simp only [List.set, iI_add]
        have e : seF s m (i + 1) = ((seF s m i).1 ||| grpF s m i, (seF s m i).2 + 1) := if_pos (by omega)
        rw [e] at ih
        exact ih

theorem ct_X6_groups {l : Launch} {D : va_G} {cA ad : Nat → Nat} {d : Nat} {σ : AS} {K : Option Value → AS → Prop} {s : PS} {m : Nat} (hR : RO σ) (hT : TwC σ s) (hS : TwK s) (hm : m < 512) (ho : σ.1 87 3 = iI m) (hK : K (some (.int (iI (shF s m (nP s) : Nat)))) σ) : Call l D cA ad (d + 1) mX6_groups [.ref 105] σ K := by
  refine call_go (by decide) (Nat.le_of_ble_eq_true rfl) (show Go l D cA ad (d + 1) mX6_groups 0 [.ref 105, .null, .null, .null] [] σ K from ?_)
  refine go_iconst (v := iI 0) dX6_groups_0 (by decide) ?_
  refine go_istore_n dX6_groups_1 (Nat.le_of_ble_eq_true rfl) rfl ?_
  refine go_iconst (v := iI 0) dX6_groups_2 (by decide) ?_
  refine go_istore_n dX6_groups_3 (Nat.le_of_ble_eq_true rfl) rfl ?_
  refine go_iconst (v := iI 0) dX6_groups_4 (by decide) ?_
  refine go_istore_n dX6_groups_5 (Nat.le_of_ble_eq_true rfl) rfl ?_
  exact gs6 hR hT hS hm ho hK 0 (by omega)

theorem ct_X11_shares {l : Launch} {D : va_G} {cA ad : Nat → Nat} {d : Nat} {σ : AS} {K : Option Value → AS → Prop} {X : XS} (hR : RO σ) (hK0 : XK X) (hC : CI σ X) (hK : ∀ τ, QF σ τ → K (some (.int (iI (sharesA X)))) τ) : Call l D cA ad (d + 2) mX11_shares [.ref 0] σ K := by
  refine call_go (by decide) (Nat.le_of_ble_eq_true rfl) (show Go l D cA ad (d + 2) mX11_shares 0 [.ref 0] [] σ K from ?_)
  refine go_aload_n dX11_shares_0 rfl ?_
  refine go_getR fX11_19 dX11_shares_1 rfl (hR _ _ _ rfl) ?_
  refine go_callV (as := []) wX11_135 dX11_shares_4 rfl rfl rfl rfl (Nat.le_of_ble_eq_true rfl) (ct_told2 hC.2.1 hK0.s (fun hn => ?_) (fun hn => ?_))
  · refine go_if_eq (tgt := 20) dX11_shares_7 (by decide) (fun h7 => ?_) (fun h7 => ?_)
    · exact absurd h7 (by decide)
    · refine go_aload_n dX11_shares_10 rfl ?_
      refine go_getR fX11_94 dX11_shares_11 rfl (hR _ _ _ rfl) ?_
      refine go_callV (as := []) wX11_332 dX11_shares_14 rfl rfl rfl rfl (Nat.le_of_ble_eq_true rfl) (ct_X6_groups hR hC.2.1 hK0.s (pw512 hK0.s hK0.w) hC.2.2.1.2.1 ?_)
      refine go_goto (tgt := 21) dX11_shares_17 (by decide) ?_
      refine go_iret rfl rfl dX11_shares_21 ?_
      have e : sharesA X = (shF (xs X) (opn (xw X)) (nP (xs X)) : Int) := by unfold sharesA; rw [if_pos (by omega)]
      have h9 := hK σ QF.rf
      rw [e] at h9
      exact h9
  · refine go_if_eq (tgt := 20) dX11_shares_7 (by decide) (fun h7 => ?_) (fun h7 => ?_)
    · refine go_iconst (v := iI (-1)) dX11_shares_20 (by decide) ?_
      refine go_iret rfl rfl dX11_shares_21 ?_
      have e : sharesA X = -1 := by unfold sharesA; rw [if_neg (by omega)]
      have h9 := hK σ QF.rf
      rw [e] at h9
      exact h9
    · exact absurd h7 (by decide)

theorem mh18 {l : Launch} {D : va_G} {cA ad : Nat → Nat} {d : Nat} {σ : AS} {K : Option Value → AS → Prop} {s : PS} {m : Nat} (hR : RO σ) (hT : TwM σ s) (hS : TwK s) (hm : m < 512) (ho : σ.1 124 21 = iI m) (hK : K (some (.int (iI (shF s m (nP s) : Nat)))) σ) : ∀ i : Nat, i ≤ nP s → Go l D cA ad (d + 2) mX12_shares 18 [.ref 111, .int (iI (shF s m i : Nat)), .int (iI i)] [] σ K := by
  have hP7 := hS.1
  refine up_loop ?_ (fun i hi ih => ?_)
  · refine go_iload_n dX12_shares_18 rfl ?_
    refine go_aload_n dX12_shares_19 rfl ?_
    refine go_getI fX12_294 dX12_shares_20 rfl ?_
    refine go_icmp_ge (tgt := 59) dX12_shares_23 (by decide) (fun h23 => ?_) (fun h23 => ?_)
    · refine go_iload_n dX12_shares_59 rfl ?_
      refine go_iret rfl rfl dX12_shares_60 ?_
      exact hK
    · exfalso
      rw [hT.1, iI_le (by omega)] at h23
      omega
  · refine go_iload_n dX12_shares_18 rfl ?_
    refine go_aload_n dX12_shares_19 rfl ?_
    refine go_getI fX12_294 dX12_shares_20 rfl ?_
    refine go_icmp_ge (tgt := 59) dX12_shares_23 (by decide) (fun h23 => ?_) (fun h23 => ?_)
    · exfalso
      rw [hT.1, iI_le (by omega)] at h23
      omega
    · refine go_iload_n dX12_shares_26 rfl ?_
      refine go_aload_n dX12_shares_27 rfl ?_
      refine go_iload_n dX12_shares_28 rfl ?_
      refine go_aload_n dX12_shares_29 rfl ?_
      refine go_getR fX12_61 dX12_shares_30 rfl (hR _ _ _ rfl) ?_
      refine go_bipush (v := iI 21) dX12_shares_33 (by decide) ?_
      refine go_iald dX12_shares_35 rfl (vp_iI (by decide)) ?_
      rw [show (iI 21).toNatClampNeg = 21 by decide, ho]
      refine go_callV (as := [_, _]) wX12_437 dX12_shares_36 rfl rfl rfl rfl (Nat.le_of_ble_eq_true rfl) (ct_X12_joinedBy hR hT hS hm hi ?_)
      refine go_callS (as := [_]) wX12_465 dX12_shares_39 rfl rfl (Nat.le_of_ble_eq_true rfl) (ct_J6_numberOfTrailingZeros_0f7a4 (grp_lt hS hi) grp_pos ?_)
      refine go_iload_n dX12_shares_42 rfl ?_
      refine go_icmp_ne (tgt := 50) dX12_shares_43 (by decide) (fun h43 => ?_) (fun h43 => ?_)
      · rw [iI_eq (by have := ntz_6 (grpF s m i); omega)] at h43
        refine go_iconst (v := iI 0) dX12_shares_50 (by decide) ?_
        refine go_iadd dX12_shares_51 ?_
        refine go_istore_n dX12_shares_52 (Nat.le_of_ble_eq_true rfl) rfl ?_
        refine go_iincI dX12_shares_53 rfl (Nat.le_of_ble_eq_true rfl) rfl ?_
        refine go_goto (tgt := 18) dX12_shares_56 (by decide) ?_
        simp only [List.set, iI_add, Int.add_zero]
        have e : shF s m (i + 1) = shF s m i := if_neg (by omega)
        rw [e] at ih
        exact ih
      · rw [iI_eq (by have := ntz_6 (grpF s m i); omega)] at h43
        refine go_iconst (v := iI 1) dX12_shares_46 (by decide) ?_
        refine go_goto (tgt := 51) dX12_shares_47 (by decide) ?_
        refine go_iadd dX12_shares_51 ?_
        refine go_istore_n dX12_shares_52 (Nat.le_of_ble_eq_true rfl) rfl ?_
        refine go_iincI dX12_shares_53 rfl (Nat.le_of_ble_eq_true rfl) rfl ?_
        refine go_goto (tgt := 18) dX12_shares_56 (by decide) ?_
        simp only [List.set, iI_add]
        have e : shF s m (i + 1) = shF s m i + 1 := if_pos (by omega)
        rw [e] at ih
        exact ih

theorem ct_X12_shares {l : Launch} {D : va_G} {cA ad : Nat → Nat} {d : Nat} {σ : AS} {K : Option Value → AS → Prop} {X : XS} (hR : RO σ) (hK0 : XK X) (hC : MI σ X) (hK : ∀ τ, DF (xL X) σ τ → K (some (.int (iI (sharesA X)))) τ) : Call l D cA ad (d + 2) mX12_shares [.ref 111] σ K := by
  have hP7 := hK0.s.1
  have hQ9 := hK0.s.2.1
  refine call_go (by decide) (Nat.le_of_ble_eq_true rfl) (show Go l D cA ad (d + 2) mX12_shares 0 [.ref 111, .null, .null] [] σ K from ?_)
  refine go_aload_n dX12_shares_0 rfl ?_
  refine go_iconst (v := iI 0) dX12_shares_1 (by decide) ?_
  refine go_putI fX12_96 rfl dX12_shares_2 rfl rfl rfl ?_
  have hq : DF (xL X) σ (sI σ 111 (upd (σ.1 111) 0 (iI 0))) := DF_f0 DF.rf
  have hR0 := hq.RO hR
  have hC0 := hC.q hK0 hq
  generalize sI σ 111 (upd (σ.1 111) 0 (iI 0)) = τ at hq hR0 hC0 ⊢
  refine go_aload_n dX12_shares_5 rfl ?_
  refine go_getI fX12_294 dX12_shares_6 rfl ?_
  refine go_if_ne (tgt := 14) dX12_shares_9 (by decide) (fun h9 => ?_) (fun h9 => ?_)
  · rw [hC0.2.1.1, iI_eq0 (by omega)] at h9
    refine go_iconst (v := iI 0) dX12_shares_14 (by decide) ?_
    refine go_istore_n dX12_shares_15 (Nat.le_of_ble_eq_true rfl) rfl ?_
    refine go_iconst (v := iI 0) dX12_shares_16 (by decide) ?_
    refine go_istore_n dX12_shares_17 (Nat.le_of_ble_eq_true rfl) rfl ?_
    simp only [List.set]
    have e : sharesA X = (shF (xs X) (opn (xw X)) (nP (xs X)) : Int) := by unfold sharesA; rw [if_pos (by omega)]
    have h9' := hK τ hq
    rw [e] at h9'
    exact mh18 hR0 hC0.2.1 hK0.s (pw512 hK0.s hK0.w) hC0.2.2.1.1.2.1 h9' 0 (by omega)
  · rw [hC0.2.1.1, iI_eq0 (by omega)] at h9
    refine go_iconst (v := iI (-1)) dX12_shares_12 (by decide) ?_
    refine go_iret rfl rfl dX12_shares_13 ?_
    have e : sharesA X = -1 := by unfold sharesA; rw [if_neg (by omega)]
    have h9 := hK τ hq
    rw [e] at h9
    exact h9

theorem hu5 {l : Launch} {D : va_G} {cA ad : Nat → Nat} {d : Nat} {σ : AS} {K : Option Value → AS → Prop} {s : PS} {g L : Nat} (hR : RO σ) (hT : TwC σ s) (hS : TwK s) (hg : g < 512) (hL : L ≤ 1000) (hK : K (some (.int (iI (heG s g L (nP s))))) σ) : ∀ i : Nat, i ≤ nP s → Go l D cA ad (d + 1) mX6_heldUpTo 5 [.ref 105, .int (iI (L : Nat)), .int (iI (g : Nat)), .int (iI (heG s g L i)), .int (iI i)] [] σ K := by
  have hP7 := hS.1
  refine up_loop ?_ (fun i hi ih => ?_)
  · refine go_iload dX6_heldUpTo_5 rfl ?_
    refine go_aload_n dX6_heldUpTo_7 rfl ?_
    refine go_getR fX6_22 dX6_heldUpTo_8 rfl (hR _ _ _ rfl) ?_
    refine go_getI fX6_119 dX6_heldUpTo_11 rfl ?_
    refine go_icmp_ge (tgt := 51) dX6_heldUpTo_14 (by decide) (fun h14 => ?_) (fun h14 => ?_)
    · refine go_iload_n dX6_heldUpTo_51 rfl ?_
      refine go_iret rfl rfl dX6_heldUpTo_52 ?_
      exact hK
    · exfalso
      rw [hT.1, iI_le (by omega)] at h14
      omega
  · refine go_iload dX6_heldUpTo_5 rfl ?_
    refine go_aload_n dX6_heldUpTo_7 rfl ?_
    refine go_getR fX6_22 dX6_heldUpTo_8 rfl (hR _ _ _ rfl) ?_
    refine go_getI fX6_119 dX6_heldUpTo_11 rfl ?_
    refine go_icmp_ge (tgt := 51) dX6_heldUpTo_14 (by decide) (fun h14 => ?_) (fun h14 => ?_)
    · exfalso
      rw [hT.1, iI_le (by omega)] at h14
      omega
    · have hpi := hS.2.2.2.1 i hi
      unfold PdK at hpi
      refine go_iload_n dX6_heldUpTo_17 rfl ?_
      refine go_iload_n dX6_heldUpTo_18 rfl ?_
      refine go_iload dX6_heldUpTo_19 rfl ?_
      refine go_ishr dX6_heldUpTo_21 ?_
      refine go_iconst (v := iI 1) dX6_heldUpTo_22 (by decide) ?_
      refine go_iand dX6_heldUpTo_23 ?_
      rw [b_get _ hg i (by omega)]
      refine go_iconst (v := iI 0) dX6_heldUpTo_24 (by decide) ?_
      refine go_iload_n dX6_heldUpTo_25 rfl ?_
      refine go_aload_n dX6_heldUpTo_26 rfl ?_
      refine go_getR fX6_22 dX6_heldUpTo_27 rfl (hR _ _ _ rfl) ?_
      refine go_getR fX6_69 dX6_heldUpTo_30 rfl (hR _ _ _ rfl) ?_
      refine go_iload dX6_heldUpTo_33 rfl ?_
      refine go_aald dX6_heldUpTo_35 rfl (by decide) (vp_iI (by omega)) (by rw [cl_n _ (by omega)]; exact hR _ _ _ (r25 _ (by omega)).2.2.1) ?_
      refine go_iconst (v := iI 2) dX6_heldUpTo_36 (by decide) ?_
      refine go_iald dX6_heldUpTo_37 (r25 i (by omega)).2.2.2 (vp_iI (by decide)) ?_
      rw [cl_2, hT.2.2.2.1 i 2 hi (by decide)]
      refine go_isub dX6_heldUpTo_38 ?_
      rw [iI_sub]
      refine go_max wX6_135 dX6_heldUpTo_39 (Nat.le_of_ble_eq_true rfl) ?_
      rw [iI_mx (by omega)]
      refine go_imul dX6_heldUpTo_42 ?_
      rw [iI_mul]
      refine go_iadd dX6_heldUpTo_43 ?_
      rw [iI_add]
      refine go_istore_n dX6_heldUpTo_44 (Nat.le_of_ble_eq_true rfl) rfl ?_
      refine go_iincI dX6_heldUpTo_45 rfl (Nat.le_of_ble_eq_true rfl) rfl ?_
      refine go_goto (tgt := 5) dX6_heldUpTo_48 (by decide) ?_
      simp only [List.set, iI_add]
      exact ih

theorem ct_X6_heldUpTo {l : Launch} {D : va_G} {cA ad : Nat → Nat} {d : Nat} {σ : AS} {K : Option Value → AS → Prop} {s : PS} {g L : Nat} (hR : RO σ) (hT : TwC σ s) (hS : TwK s) (hg : g < 512) (hL : L ≤ 1000) (hK : K (some (.int (iI (heG s g L (nP s))))) σ) : Call l D cA ad (d + 1) mX6_heldUpTo [.ref 105, .int (iI (L : Nat)), .int (iI (g : Nat))] σ K := by
  refine call_go (by decide) (Nat.le_of_ble_eq_true rfl) (show Go l D cA ad (d + 1) mX6_heldUpTo 0 [.ref 105, .int (iI (L : Nat)), .int (iI (g : Nat)), .null, .null] [] σ K from ?_)
  refine go_iconst (v := iI 0) dX6_heldUpTo_0 (by decide) ?_
  refine go_istore_n dX6_heldUpTo_1 (Nat.le_of_ble_eq_true rfl) rfl ?_
  refine go_iconst (v := iI 0) dX6_heldUpTo_2 (by decide) ?_
  refine go_istore dX6_heldUpTo_3 (Nat.le_of_ble_eq_true rfl) rfl ?_
  exact hu5 hR hT hS hg hL hK 0 (by omega)

theorem lr62 {l : Launch} {D : va_G} {cA ad : Nat → Nat} {d : Nat} {σ : AS} {K : Option Value → AS → Prop} {s : PS} {g : Nat} {p : Int32} {W R : Int} (hR : RO σ) (hT : TwC σ s) (hS : TwK s) (hg : g < 512) (hW : 0 ≤ W ∧ W ≤ 1000) (hK : K (some (.int (iI R))) σ) : ∀ (r i : Nat), r + i = 1000 → rsF s g W r i = R → Go l D cA ad (d + 2) mX6_levelOfRest 62 [.ref 105, .int p, .int (iI (g : Nat)), .int (iI W), .int (iI i)] [] σ K := by
  have hP7 := hS.1
  intro r
  induction r with
  | zero =>
    intro i hr hres
    refine go_iload dX6_levelOfRest_62 rfl ?_
    refine go_sipush (v := iI 1000) dX6_levelOfRest_64 (by decide) ?_
    refine go_icmp_ge (tgt := 90) dX6_levelOfRest_67 (by decide) (fun h67 => ?_) (fun h67 => ?_)
    · refine go_iconst (v := iI (-1)) dX6_levelOfRest_90 (by decide) ?_
      refine go_iret rfl rfl dX6_levelOfRest_91 ?_
      have e : -1 = R := hres
      rw [← e] at hK
      exact hK
    · exfalso
      rw [iI_le (by omega)] at h67
      omega
  | succ r ih =>
    intro i hr hres
    refine go_iload dX6_levelOfRest_62 rfl ?_
    refine go_sipush (v := iI 1000) dX6_levelOfRest_64 (by decide) ?_
    refine go_icmp_ge (tgt := 90) dX6_levelOfRest_67 (by decide) (fun h67 => ?_) (fun h67 => ?_)
    · exfalso
      rw [iI_le (by omega)] at h67
      omega
    · have hbd := heG_bd hS g i (by omega) (nP s) (Nat.le_refl _)
      refine go_aload_n dX6_levelOfRest_70 rfl ?_
      refine go_iload dX6_levelOfRest_71 rfl ?_
      refine go_iload_n dX6_levelOfRest_73 rfl ?_
      refine go_callV (as := [_, _]) wX6_132 dX6_levelOfRest_74 rfl rfl rfl rfl (Nat.le_of_ble_eq_true rfl) (ct_X6_heldUpTo hR hT hS hg (by omega) ?_)
      refine go_iload_n dX6_levelOfRest_77 rfl ?_
      refine go_icmp_lt (tgt := 84) dX6_levelOfRest_78 (by decide) (fun h78 => ?_) (fun h78 => ?_)
      · rw [iI_lt (by omega)] at h78
        refine go_iincI dX6_levelOfRest_84 rfl (Nat.le_of_ble_eq_true rfl) rfl ?_
        refine go_goto (tgt := 62) dX6_levelOfRest_87 (by decide) ?_
        simp only [List.set, iI_add]
        exact ih (i + 1) (by omega) (by rw [← hres]; exact (if_neg (by omega)).symm)
      · rw [iI_lt (by omega)] at h78
        refine go_iload dX6_levelOfRest_81 rfl ?_
        refine go_iret rfl rfl dX6_levelOfRest_83 ?_
        have e : (i : Int) = R := by rw [← hres]; exact (if_pos (by omega)).symm
        rw [← e] at hK
        exact hK
theorem lr21 {l : Launch} {D : va_G} {cA ad : Nat → Nat} {d : Nat} {σ : AS} {K : Option Value → AS → Prop} {s : PS} {w : WT} {g : Nat} {p : Int32} (hR : RO σ) (hT : TwC σ s) (hS : TwK s) (hg : g < 512) (hW : WC σ 87 w) (hw : WK s w) (hK : K (some (.int (iI (rsF s g (waG w g (nP s)) 1000 0)))) σ) : ∀ i : Nat, i ≤ nP s → Go l D cA ad (d + 2) mX6_levelOfRest 21 [.ref 105, .int p, .int (iI (g : Nat)), .int (iI (waG w g i)), .int (iI i)] [] σ K := by
  have hP7 := hS.1
  refine up_loop ?_ (fun i hi ih => ?_)
  · refine go_iload dX6_levelOfRest_21 rfl ?_
    refine go_aload_n dX6_levelOfRest_23 rfl ?_
    refine go_getR fX6_22 dX6_levelOfRest_24 rfl (hR _ _ _ rfl) ?_
    refine go_getI fX6_119 dX6_levelOfRest_27 rfl ?_
    refine go_icmp_ge (tgt := 59) dX6_levelOfRest_30 (by decide) (fun h30 => ?_) (fun h30 => ?_)
    · refine go_iconst (v := iI 0) dX6_levelOfRest_59 (by decide) ?_
      refine go_istore dX6_levelOfRest_60 (Nat.le_of_ble_eq_true rfl) rfl ?_
      simp only [List.set]
      exact lr62 hR hT hS hg (by have := waG_bd hS hw g (nP s) hS.1; omega) hK 1000 0 (by omega) rfl
    · exfalso
      rw [hT.1, iI_le (by omega)] at h30
      omega
  · refine go_iload dX6_levelOfRest_21 rfl ?_
    refine go_aload_n dX6_levelOfRest_23 rfl ?_
    refine go_getR fX6_22 dX6_levelOfRest_24 rfl (hR _ _ _ rfl) ?_
    refine go_getI fX6_119 dX6_levelOfRest_27 rfl ?_
    refine go_icmp_ge (tgt := 59) dX6_levelOfRest_30 (by decide) (fun h30 => ?_) (fun h30 => ?_)
    · exfalso
      rw [hT.1, iI_le (by omega)] at h30
      omega
    · refine go_iload_n dX6_levelOfRest_33 rfl ?_
      refine go_iload_n dX6_levelOfRest_34 rfl ?_
      refine go_iload dX6_levelOfRest_35 rfl ?_
      refine go_ishr dX6_levelOfRest_37 ?_
      refine go_iconst (v := iI 1) dX6_levelOfRest_38 (by decide) ?_
      refine go_iand dX6_levelOfRest_39 ?_
      rw [b_get _ hg i (by omega)]
      refine go_aload_n dX6_levelOfRest_40 rfl ?_
      refine go_getR fX6_30 dX6_levelOfRest_41 rfl (hR _ _ _ rfl) ?_
      refine go_getR fX6_73 dX6_levelOfRest_44 rfl (hR _ _ _ rfl) ?_
      refine go_iload dX6_levelOfRest_47 rfl ?_
      refine go_iald dX6_levelOfRest_49 rfl (vp_iI (by omega)) ?_
      rw [cl_n _ (by omega), (hW.1 i (by omega)).1]
      refine go_imul dX6_levelOfRest_50 ?_
      rw [iI_mul]
      refine go_iadd dX6_levelOfRest_51 ?_
      rw [iI_add]
      refine go_istore_n dX6_levelOfRest_52 (Nat.le_of_ble_eq_true rfl) rfl ?_
      refine go_iincI dX6_levelOfRest_53 rfl (Nat.le_of_ble_eq_true rfl) rfl ?_
      refine go_goto (tgt := 21) dX6_levelOfRest_56 (by decide) ?_
      simp only [List.set, iI_add]
      exact ih

theorem ct_X6_levelOfRest {l : Launch} {D : va_G} {cA ad : Nat → Nat} {d : Nat} {σ : AS} {K : Option Value → AS → Prop} {s : PS} {w : WT} {p : Nat} (hR : RO σ) (hT : TwC σ s) (hS : TwK s) (hW : WC σ 87 w) (hw : WK s w) (hp : p < nP s) (hK : K (some (.int (iI (rsF s (grpF s (opn w) p) (waG w (grpF s (opn w) p) (nP s)) 1000 0)))) σ) : Call l D cA ad (d + 2) mX6_levelOfRest [.ref 105, .int (iI p)] σ K := by
  refine call_go (by decide) (Nat.le_of_ble_eq_true rfl) (show Go l D cA ad (d + 2) mX6_levelOfRest 0 [.ref 105, .int (iI p), .null, .null, .null] [] σ K from ?_)
  refine go_aload_n dX6_levelOfRest_0 rfl ?_
  refine go_getR fX6_22 dX6_levelOfRest_1 rfl (hR _ _ _ rfl) ?_
  refine go_iload_n dX6_levelOfRest_4 rfl ?_
  refine go_aload_n dX6_levelOfRest_5 rfl ?_
  refine go_getR fX6_30 dX6_levelOfRest_6 rfl (hR _ _ _ rfl) ?_
  refine go_getI fX6_37 dX6_levelOfRest_9 rfl ?_
  rw [hW.2.1]
  refine go_callV (as := [_, _]) wX6_128 dX6_levelOfRest_12 rfl rfl rfl rfl (Nat.le_of_ble_eq_true rfl) (ct_X9_groupOf hR hT hS (pw512 hS hw) hp ?_)
  refine go_istore_n dX6_levelOfRest_15 (Nat.le_of_ble_eq_true rfl) rfl ?_
  refine go_iconst (v := iI 0) dX6_levelOfRest_16 (by decide) ?_
  refine go_istore_n dX6_levelOfRest_17 (Nat.le_of_ble_eq_true rfl) rfl ?_
  refine go_iconst (v := iI 0) dX6_levelOfRest_18 (by decide) ?_
  refine go_istore dX6_levelOfRest_19 (Nat.le_of_ble_eq_true rfl) rfl ?_
  simp only [List.set]
  exact lr21 hR hT hS (by have := grp_lt hS (m := opn w) hp; omega) hW hw hK 0 (by omega)

theorem ct_X11_rest {l : Launch} {D : va_G} {cA ad : Nat → Nat} {d : Nat} {σ : AS} {K : Option Value → AS → Prop} {X : XS} {p : Int} (hR : RO σ) (hK0 : XK X) (hC : CI σ X) (hp32 : -2147483648 ≤ p ∧ p < 2147483648) (hK : ∀ τ, QF σ τ → K (some (.int (iI (restA X p)))) τ) : Call l D cA ad (d + 3) mX11_rest [.ref 0, .int (iI p)] σ K := by
  refine call_go (by decide) (Nat.le_of_ble_eq_true rfl) (show Go l D cA ad (d + 3) mX11_rest 0 [.ref 0, .int (iI p)] [] σ K from ?_)
  refine go_aload_n dX11_rest_0 rfl ?_
  refine go_getR fX11_19 dX11_rest_1 rfl (hR _ _ _ rfl) ?_
  refine go_iload_n dX11_rest_4 rfl ?_
  refine go_callV (as := [_]) wX11_142 dX11_rest_5 rfl rfl rfl rfl (Nat.le_of_ble_eq_true rfl) (ct_hasPond2 hp32 hC.2.1 hK0.s (fun k hke hkl => ?_) (fun hkx => ?_))
  · refine go_if_eq (tgt := 22) dX11_rest_8 (by decide) (fun h8 => ?_) (fun h8 => ?_)
    · exact absurd h8 (by decide)
    · subst hke
      refine go_aload_n dX11_rest_11 rfl ?_
      refine go_getR fX11_94 dX11_rest_12 rfl (hR _ _ _ rfl) ?_
      refine go_iload_n dX11_rest_15 rfl ?_
      refine go_callV (as := [_]) wX11_280 dX11_rest_16 rfl rfl rfl rfl (Nat.le_of_ble_eq_true rfl) (ct_X6_levelOfRest hR hC.2.1 hK0.s hC.2.2.1 hK0.w hkl ?_)
      refine go_goto (tgt := 23) dX11_rest_19 (by decide) ?_
      refine go_iret rfl rfl dX11_rest_23 ?_
      have e : restA X k = rsF (xs X) (grpF (xs X) (opn (xw X)) k) (waG (xw X) (grpF (xs X) (opn (xw X)) k) (nP (xs X))) 1000 0 := by unfold restA; rw [if_pos (by omega), Int.toNat_natCast]
      have h9 := hK σ QF.rf
      rw [e] at h9
      exact h9
  · refine go_if_eq (tgt := 22) dX11_rest_8 (by decide) (fun h8 => ?_) (fun h8 => ?_)
    · refine go_iconst (v := iI (-1)) dX11_rest_22 (by decide) ?_
      refine go_iret rfl rfl dX11_rest_23 ?_
      have e : restA X p = -1 := by unfold restA; rw [if_neg (by omega)]
      have h9 := hK σ QF.rf
      rw [e] at h9
      exact h9
    · exact absurd h8 (by decide)

theorem mx82 {l : Launch} {D : va_G} {cA ad : Nat → Nat} {d : Nat} {σ : AS} {K : Option Value → AS → Prop} {s : PS} {g L : Nat} {p : Int32} {W : Int} (hR : RO σ) (hT : TwM σ s) (hS : TwK s) (hg : g < 512) (hL : L ≤ 1000) (hW : 0 ≤ W ∧ W ≤ 1000) (hK1 : W ≤ heG s g L (nP s) → K (some (.int (iI (L : Nat)))) σ) (hK2 : ¬ W ≤ heG s g L (nP s) → ∀ v5 v6 : Value, Go l D cA ad (d + 1) mX12_rest 76 [.ref 111, .int p, .int (iI (g : Nat)), .int (iI W), .int (iI ((L : Int) + 1)), v5, v6] [] σ K) : ∀ i : Nat, i ≤ nP s → Go l D cA ad (d + 1) mX12_rest 82 [.ref 111, .int p, .int (iI (g : Nat)), .int (iI W), .int (iI (L : Nat)), .int (iI (heG s g L i)), .int (iI i)] [] σ K := by
  have hP7 := hS.1
  refine up_loop ?_ (fun i hi ih => ?_)
  · refine go_iload dX12_rest_82 rfl ?_
    refine go_aload_n dX12_rest_84 rfl ?_
    refine go_getI fX12_294 dX12_rest_85 rfl ?_
    refine go_icmp_ge (tgt := 129) dX12_rest_88 (by decide) (fun h88 => ?_) (fun h88 => ?_)
    · refine go_iload dX12_rest_129 rfl ?_
      refine go_iload_n dX12_rest_131 rfl ?_
      refine go_icmp_lt (tgt := 138) dX12_rest_132 (by decide) (fun h132 => ?_) (fun h132 => ?_)
      · rw [iI_lt (by have := heG_bd hS g L hL (nP s) (Nat.le_refl _); omega)] at h132
        refine go_iincI dX12_rest_138 rfl (Nat.le_of_ble_eq_true rfl) rfl ?_
        refine go_goto (tgt := 76) dX12_rest_141 (by decide) ?_
        simp only [List.set, iI_add]
        exact hK2 (by omega) _ _
      · rw [iI_lt (by have := heG_bd hS g L hL (nP s) (Nat.le_refl _); omega)] at h132
        refine go_iload dX12_rest_135 rfl ?_
        refine go_iret rfl rfl dX12_rest_137 ?_
        exact hK1 (by omega)
    · exfalso
      rw [hT.1, iI_le (by omega)] at h88
      omega
  · refine go_iload dX12_rest_82 rfl ?_
    refine go_aload_n dX12_rest_84 rfl ?_
    refine go_getI fX12_294 dX12_rest_85 rfl ?_
    refine go_icmp_ge (tgt := 129) dX12_rest_88 (by decide) (fun h88 => ?_) (fun h88 => ?_)
    · exfalso
      rw [hT.1, iI_le (by omega)] at h88
      omega
    · have hpi := hS.2.2.2.1 i hi
      unfold PdK at hpi
      have hexp : heG s g L (i + 1) = heG s g L i + ((g / 2 ^ i % 2 : Nat) : Int) * mx 0 ((L : Int) - pd s i 2) := rfl
      refine go_iload dX12_rest_91 rfl ?_
      refine go_iload_n dX12_rest_93 rfl ?_
      refine go_iload dX12_rest_94 rfl ?_
      refine go_callS (as := [_, _]) wX12_229 dX12_rest_96 rfl rfl (Nat.le_of_ble_eq_true rfl) (ct_X12_has hg (by omega) ?_)
      rcases bit_01 g i with hb | hb
      · rw [hb] at hexp ⊢
        rw [hexp, show ((0 : Nat) : Int) * mx 0 ((L : Int) - pd s i 2) = 0 from Int.zero_mul _, Int.add_zero] at ih
        refine go_if_eq (tgt := 119) dX12_rest_99 (by decide) (fun h99 => ?_) (fun h99 => ?_)
        · refine go_iconst (v := iI 0) dX12_rest_119 (by decide) ?_
          refine go_iadd dX12_rest_120 ?_
          rw [iI_add, Int.add_zero]
          refine go_istore dX12_rest_121 (Nat.le_of_ble_eq_true rfl) rfl ?_
          refine go_iincI dX12_rest_123 rfl (Nat.le_of_ble_eq_true rfl) rfl ?_
          refine go_goto (tgt := 82) dX12_rest_126 (by decide) ?_
          simp only [List.set, iI_add]
          exact ih
        · exact absurd h99 (by decide)
      · rw [hb] at hexp ⊢
        rw [hexp, show ((1 : Nat) : Int) * mx 0 ((L : Int) - pd s i 2) = mx 0 ((L : Int) - pd s i 2) from Int.one_mul _] at ih
        refine go_if_eq (tgt := 119) dX12_rest_99 (by decide) (fun h99 => ?_) (fun h99 => ?_)
        · exact absurd h99 (by decide)
        · refine go_iconst (v := iI 0) dX12_rest_102 (by decide) ?_
          refine go_iload dX12_rest_103 rfl ?_
          refine go_aload_n dX12_rest_105 rfl ?_
          refine go_iload dX12_rest_106 rfl ?_
          refine go_iconst (v := iI 2) dX12_rest_108 (by decide) ?_
          refine go_callV (as := [_, _]) wX12_300 dX12_rest_109 rfl rfl rfl rfl (Nat.le_of_ble_eq_true rfl) (ct_X12_told (j := 2) hR hT hS.1 hi (by decide) ?_)
          refine go_isub dX12_rest_112 ?_
          rw [iI_sub]
          refine go_max wX12_328 dX12_rest_113 (Nat.le_of_ble_eq_true rfl) ?_
          rw [iI_mx (by omega)]
          refine go_goto (tgt := 120) dX12_rest_116 (by decide) ?_
          refine go_iadd dX12_rest_120 ?_
          rw [iI_add]
          refine go_istore dX12_rest_121 (Nat.le_of_ble_eq_true rfl) rfl ?_
          refine go_iincI dX12_rest_123 rfl (Nat.le_of_ble_eq_true rfl) rfl ?_
          refine go_goto (tgt := 82) dX12_rest_126 (by decide) ?_
          simp only [List.set, iI_add]
          exact ih

theorem mx76 {l : Launch} {D : va_G} {cA ad : Nat → Nat} {d : Nat} {σ : AS} {K : Option Value → AS → Prop} {s : PS} {g : Nat} {p : Int32} {W R : Int} (hR : RO σ) (hT : TwM σ s) (hS : TwK s) (hg : g < 512) (hW : 0 ≤ W ∧ W ≤ 1000) (hend : W ≤ heG s g 108 (nP s)) (hK : K (some (.int (iI R))) σ) : ∀ (r i : Nat), r + i = 1000 ∧ i ≤ 108 → rsF s g W r i = R → ∀ v5 v6 : Value, Go l D cA ad (d + 1) mX12_rest 76 [.ref 111, .int p, .int (iI (g : Nat)), .int (iI W), .int (iI i), v5, v6] [] σ K := by
  have hP7 := hS.1
  intro r
  induction r with
  | zero => intro i hr; omega
  | succ r ih =>
    intro i hr hres v5 v6
    refine go_iconst (v := iI 0) dX12_rest_76 (by decide) ?_
    refine go_istore dX12_rest_77 (Nat.le_of_ble_eq_true rfl) rfl ?_
    refine go_iconst (v := iI 0) dX12_rest_79 (by decide) ?_
    refine go_istore dX12_rest_80 (Nat.le_of_ble_eq_true rfl) rfl ?_
    simp only [List.set]
    refine mx82 hR hT hS hg (by omega) hW (fun hx => ?_) (fun hx v5 v6 => ?_) 0 (by omega)
    · have e : (i : Int) = R := by rw [← hres]; exact (if_pos hx).symm
      rw [← e] at hK
      exact hK
    · refine ih (i + 1) ?_ (by rw [← hres]; exact (if_neg hx).symm) _ _
      have : i ≠ 108 := fun q => hx (by rw [q]; exact hend)
      omega
theorem mx33 {l : Launch} {D : va_G} {cA ad : Nat → Nat} {d : Nat} {σ : AS} {K : Option Value → AS → Prop} {s : PS} {w : WT} {g : Nat} {p : Int32} (hR : RO σ) (hT : TwM σ s) (hS : TwK s) (hg : g < 512) (hW : WM σ 124 w) (hw : WK s w) (hK : K (some (.int (iI (rsF s g (waG w g (nP s)) 1000 0)))) σ) : ∀ i : Nat, i ≤ nP s → ∀ v5 v6 : Value, Go l D cA ad (d + 1) mX12_rest 33 [.ref 111, .int p, .int (iI (g : Nat)), .int (iI (waG w g i)), .int (iI i), v5, v6] [] σ K := by
  have hP7 := hS.1
  refine up_loop (P := fun i : Nat => ∀ v5 v6 : Value, Go l D cA ad (d + 1) mX12_rest 33 [.ref 111, .int p, .int (iI (g : Nat)), .int (iI (waG w g i)), .int (iI i), v5, v6] [] σ K) (fun v5 v6 => ?_) (fun i hi ih v5 v6 => ?_)
  · refine go_iload dX12_rest_33 rfl ?_
    refine go_aload_n dX12_rest_35 rfl ?_
    refine go_getI fX12_294 dX12_rest_36 rfl ?_
    refine go_icmp_ge (tgt := 73) dX12_rest_39 (by decide) (fun h39 => ?_) (fun h39 => ?_)
    · refine go_iconst (v := iI 0) dX12_rest_73 (by decide) ?_
      refine go_istore dX12_rest_74 (Nat.le_of_ble_eq_true rfl) rfl ?_
      simp only [List.set]
      exact mx76 hR hT hS hg (by have := waG_bd hS hw g (nP s) hS.1; omega) (rest_end hS hw g (nP s) (Nat.le_refl _)) hK 1000 0 (by omega) rfl _ _
    · exfalso
      rw [hT.1, iI_le (by omega)] at h39
      omega
  · refine go_iload dX12_rest_33 rfl ?_
    refine go_aload_n dX12_rest_35 rfl ?_
    refine go_getI fX12_294 dX12_rest_36 rfl ?_
    refine go_icmp_ge (tgt := 73) dX12_rest_39 (by decide) (fun h39 => ?_) (fun h39 => ?_)
    · exfalso
      rw [hT.1, iI_le (by omega)] at h39
      omega
    · have hexp : waG w g (i + 1) = waG w g i + ((g / 2 ^ i % 2 : Nat) : Int) * wa w i := rfl
      refine go_iload_n dX12_rest_42 rfl ?_
      refine go_iload_n dX12_rest_43 rfl ?_
      refine go_iload dX12_rest_44 rfl ?_
      refine go_callS (as := [_, _]) wX12_229 dX12_rest_46 rfl rfl (Nat.le_of_ble_eq_true rfl) (ct_X12_has hg (by omega) ?_)
      rcases bit_01 g i with hb | hb
      · rw [hb] at hexp ⊢
        rw [hexp, show ((0 : Nat) : Int) * wa w i = 0 from Int.zero_mul _, Int.add_zero] at ih
        refine go_if_eq (tgt := 64) dX12_rest_49 (by decide) (fun h49 => ?_) (fun h49 => ?_)
        · refine go_iconst (v := iI 0) dX12_rest_64 (by decide) ?_
          refine go_iadd dX12_rest_65 ?_
          rw [iI_add, Int.add_zero]
          refine go_istore_n dX12_rest_66 (Nat.le_of_ble_eq_true rfl) rfl ?_
          refine go_iincI dX12_rest_67 rfl (Nat.le_of_ble_eq_true rfl) rfl ?_
          refine go_goto (tgt := 33) dX12_rest_70 (by decide) ?_
          simp only [List.set, iI_add]
          exact ih _ _
        · exact absurd h49 (by decide)
      · rw [hb] at hexp ⊢
        rw [hexp, show ((1 : Nat) : Int) * wa w i = wa w i from Int.one_mul _] at ih
        refine go_if_eq (tgt := 64) dX12_rest_49 (by decide) (fun h49 => ?_) (fun h49 => ?_)
        · exact absurd h49 (by decide)
        · refine go_aload_n dX12_rest_52 rfl ?_
          refine go_getR fX12_61 dX12_rest_53 rfl (hR _ _ _ rfl) ?_
          refine go_iload dX12_rest_56 rfl ?_
          refine go_callS (as := [_, _]) wX12_312 dX12_rest_58 rfl rfl (Nat.le_of_ble_eq_true rfl) (ct_X12_water rfl hW (by omega) ?_)
          refine go_goto (tgt := 65) dX12_rest_61 (by decide) ?_
          refine go_iadd dX12_rest_65 ?_
          rw [iI_add]
          refine go_istore_n dX12_rest_66 (Nat.le_of_ble_eq_true rfl) rfl ?_
          refine go_iincI dX12_rest_67 rfl (Nat.le_of_ble_eq_true rfl) rfl ?_
          refine go_goto (tgt := 33) dX12_rest_70 (by decide) ?_
          simp only [List.set, iI_add]
          exact ih _ _

theorem ct_X12_rest {l : Launch} {D : va_G} {cA ad : Nat → Nat} {d : Nat} {σ : AS} {K : Option Value → AS → Prop} {X : XS} {p : Int} (hR : RO σ) (hK0 : XK X) (hC : MI σ X) (hp32 : -2147483648 ≤ p ∧ p < 2147483648) (hK : ∀ τ, DF (xL X) σ τ → K (some (.int (iI (restA X p)))) τ) : Call l D cA ad (d + 2) mX12_rest [.ref 111, .int (iI p)] σ K := by
  have hP7 := hK0.s.1
  have hQ9 := hK0.s.2.1
  refine call_go (by decide) (Nat.le_of_ble_eq_true rfl) (show Go l D cA ad (d + 2) mX12_rest 0 [.ref 111, .int (iI p), .null, .null, .null, .null, .null] [] σ K from ?_)
  refine go_aload_n dX12_rest_0 rfl ?_
  refine go_iconst (v := iI 0) dX12_rest_1 (by decide) ?_
  refine go_putI fX12_96 rfl dX12_rest_2 rfl rfl rfl ?_
  have hq : DF (xL X) σ (sI σ 111 (upd (σ.1 111) 0 (iI 0))) := DF_f0 DF.rf
  have hR0 := hq.RO hR
  have hC0 := hC.q hK0 hq
  generalize sI σ 111 (upd (σ.1 111) 0 (iI 0)) = τ at hq hR0 hC0 ⊢
  refine go_aload_n dX12_rest_5 rfl ?_
  refine go_iload_n dX12_rest_6 rfl ?_
  refine go_callV (as := [_]) wX12_364 dX12_rest_7 rfl rfl rfl rfl (Nat.le_of_ble_eq_true rfl) (ct_isPond2 hp32 hC0.2.1 hK0.s (fun k hke hkl => ?_) (fun hkx => ?_))
  · refine go_if_ne (tgt := 15) dX12_rest_10 (by decide) (fun h10 => ?_) (fun h10 => ?_)
    · subst hke
      refine go_aload_n dX12_rest_15 rfl ?_
      refine go_iload_n dX12_rest_16 rfl ?_
      refine go_aload_n dX12_rest_17 rfl ?_
      refine go_getR fX12_61 dX12_rest_18 rfl (hR0 _ _ _ rfl) ?_
      refine go_bipush (v := iI 21) dX12_rest_21 (by decide) ?_
      refine go_iald dX12_rest_23 rfl (vp_iI (by decide)) ?_
      rw [show (iI 21).toNatClampNeg = 21 by decide, hC0.2.2.1.1.2.1]
      refine go_callV (as := [_, _]) wX12_437 dX12_rest_24 rfl rfl rfl rfl (Nat.le_of_ble_eq_true rfl) (ct_X12_joinedBy hR0 hC0.2.1 hK0.s (pw512 hK0.s hK0.w) hkl ?_)
      refine go_istore_n dX12_rest_27 (Nat.le_of_ble_eq_true rfl) rfl ?_
      refine go_iconst (v := iI 0) dX12_rest_28 (by decide) ?_
      refine go_istore_n dX12_rest_29 (Nat.le_of_ble_eq_true rfl) rfl ?_
      refine go_iconst (v := iI 0) dX12_rest_30 (by decide) ?_
      refine go_istore dX12_rest_31 (Nat.le_of_ble_eq_true rfl) rfl ?_
      simp only [List.set]
      have e : restA X k = rsF (xs X) (grpF (xs X) (opn (xw X)) k) (waG (xw X) (grpF (xs X) (opn (xw X)) k) (nP (xs X))) 1000 0 := by unfold restA; rw [if_pos (by omega), Int.toNat_natCast]
      have h9 := hK τ hq
      rw [e] at h9
      exact mx33 hR0 hC0.2.1 hK0.s (by have := grp_lt hK0.s (m := opn (xw X)) hkl; omega) (WM_R.mpr hC0.2.2.1.1) hK0.w h9 0 (by omega) _ _
    · exact absurd h10 (by decide)
  · refine go_if_ne (tgt := 15) dX12_rest_10 (by decide) (fun h10 => ?_) (fun h10 => ?_)
    · exact absurd h10 (by decide)
    · refine go_iconst (v := iI (-1)) dX12_rest_13 (by decide) ?_
      refine go_iret rfl rfl dX12_rest_14 ?_
      have e : restA X p = -1 := by unfold restA; rw [if_neg (by omega)]
      have h9 := hK τ hq
      rw [e] at h9
      exact h9

