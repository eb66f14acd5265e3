/-! longs as integers -/
def lL (z : Int) : Int64 := Int64.ofInt z
theorem lL_toInt {z : Int} (h : -9223372036854775808 ≤ z ∧ z < 9223372036854775808) : (lL z).toInt = z := by
  unfold lL
  rw [Int64.toInt_ofInt, Int.bmod_def]
  simp only [Int64.size]
  split <;> omega
theorem lL_of (x : Int64) : lL x.toInt = x := Int64.ofInt_toInt x
theorem z64 (x : Int64) : -9223372036854775808 ≤ x.toInt ∧ x.toInt < 9223372036854775808 := ⟨by have := Int64.le_toInt x; simpa using this, by have := Int64.toInt_lt x; simpa using this⟩
theorem lL_add (a b : Int) : lL a + lL b = lL (a + b) := (Int64.ofInt_add a b).symm
theorem lL_sub (a b : Int) : lL a - lL b = lL (a - b) := (Int64.ofInt_sub a b).symm
theorem lL_mul (a b : Int) : lL a * lL b = lL (a * b) := (Int64.ofInt_mul a b).symm
theorem lL_0 : (0 : Int64) = lL 0 := by decide
theorem i2l_iI {z : Int} (h : -2147483648 ≤ z ∧ z < 2147483648) : (iI z).toInt64 = lL z := by
  apply Int64.toInt_inj.mp
  rw [Int32.toInt_toInt64, iI_toInt h.1 h.2, lL_toInt (by omega)]
theorem l2i_lL (z : Int) : (lL z).toInt32 = iI z := by
  unfold lL iI
  exact Int64.toInt32_ofInt
theorem mul_bd {a b M : Int} (ha : -M ≤ a ∧ a ≤ M) (hb : -M ≤ b ∧ b ≤ M) : -(M * M) ≤ a * b ∧ a * b ≤ M * M := by
  have h1 : (a * b).natAbs ≤ M.natAbs * M.natAbs := by
    rw [Int.natAbs_mul]
    exact Nat.mul_le_mul (by omega) (by omega)
  have h2 : (M * M).natAbs = M.natAbs * M.natAbs := Int.natAbs_mul _ _
  have h3 : 0 ≤ M * M := Int.mul_nonneg (by omega) (by omega)
  omega
def bd6 (z : Int) : Prop := -1000000 ≤ z ∧ z ≤ 1000000
theorem clamp_bd (z : Int) : bd6 (clampV z) := by unfold bd6 clampV; split <;> (try split) <;> omega
theorem clamp_id {z : Int} (h : bd6 z) : clampV z = z := by unfold bd6 at h; unfold clampV; rw [if_neg (by omega), if_neg (by omega)]
theorem op_11 (a b : Int) : opV (-11) a b = clampV (a + b) := by unfold opV; rw [if_pos rfl]
theorem op_12 (a b : Int) : opV (-12) a b = clampV (a - b) := by unfold opV; rw [if_neg (by decide), if_pos rfl]
theorem op_13 (a b : Int) : opV (-13) a b = clampV (a * b) := by unfold opV; rw [if_neg (by decide), if_neg (by decide), if_pos rfl]
theorem op_14 (a b : Int) : opV (-14) a b = clampV (if b = 0 then 0 else a.tdiv b) := by unfold opV; rw [if_neg (by decide), if_neg (by decide), if_neg (by decide), if_pos rfl]
theorem op_15 (a b : Int) : opV (-15) a b = if a = b then 1 else 0 := by unfold opV; rw [if_neg (by decide), if_neg (by decide), if_neg (by decide), if_neg (by decide), if_pos rfl]
theorem op_16 (a b : Int) : opV (-16) a b = if a < b then 1 else 0 := by unfold opV; rw [if_neg (by decide), if_neg (by decide), if_neg (by decide), if_neg (by decide), if_neg (by decide), if_pos rfl]
theorem op_17 (a b : Int) : opV (-17) a b = if b < a then 1 else 0 := by unfold opV; rw [if_neg (by decide), if_neg (by decide), if_neg (by decide), if_neg (by decide), if_neg (by decide), if_neg (by decide), if_pos rfl]
theorem op_19 (a b : Int) : opV (-19) a b = if a ≠ 0 ∧ b ≠ 0 then 1 else 0 := by unfold opV; rw [if_neg (by decide), if_neg (by decide), if_neg (by decide), if_neg (by decide), if_neg (by decide), if_neg (by decide), if_neg (by decide), if_pos rfl]
theorem op_20 (a b : Int) : opV (-20) a b = if a ≠ 0 ∨ b ≠ 0 then 1 else 0 := by unfold opV; rw [if_neg (by decide), if_neg (by decide), if_neg (by decide), if_neg (by decide), if_neg (by decide), if_neg (by decide), if_neg (by decide), if_neg (by decide)]
theorem wi_add {a b : Int} (ha : bd6 a) (hb : bd6 b) : clampV ((iI a).toInt64 + (iI b).toInt64).toInt = opV (-11) a b := by
  unfold bd6 at ha hb
  rw [i2l_iI (by omega), i2l_iI (by omega), lL_add, lL_toInt (by omega)]
  rw [op_11]
theorem wi_sub {a b : Int} (ha : bd6 a) (hb : bd6 b) : clampV ((iI a).toInt64 - (iI b).toInt64).toInt = opV (-12) a b := by
  unfold bd6 at ha hb
  rw [i2l_iI (by omega), i2l_iI (by omega), lL_sub, lL_toInt (by omega)]
  rw [op_12]
theorem wi_mul {a b : Int} (ha : bd6 a) (hb : bd6 b) : clampV ((iI a).toInt64 * (iI b).toInt64).toInt = opV (-13) a b := by
  unfold bd6 at ha hb
  have := mul_bd ha hb
  rw [i2l_iI (by omega), i2l_iI (by omega), lL_mul, lL_toInt (by omega)]
  rw [op_13]
theorem tdiv_bd {a b M : Int} (ha : -M ≤ a ∧ a ≤ M) : -M ≤ a.tdiv b ∧ a.tdiv b ≤ M := by
  have h1 : (a.tdiv b).natAbs ≤ a.natAbs := by
    rw [Int.natAbs_tdiv]
    exact Nat.div_le_self _ _
  omega
theorem lL_div {a b : Int} (ha : -2147483648 ≤ a ∧ a < 2147483648) (hb : -2147483648 ≤ b ∧ b < 2147483648) : lL a / lL b = lL (a.tdiv b) := by
  apply Int64.toInt_inj.mp
  have h1 := tdiv_bd (b := b) (M := 2147483648) (a := a) (by omega)
  rw [Int64.toInt_div, lL_toInt (by omega), lL_toInt (by omega), lL_toInt (by omega), Int.bmod_def]
  simp only [show ((2 : Nat) ^ 64 : Nat) = 18446744073709551616 by decide]
  split <;> omega
theorem lL_eq {a b : Int} (ha : -9223372036854775808 ≤ a ∧ a < 9223372036854775808) (hb : -9223372036854775808 ≤ b ∧ b < 9223372036854775808) : lL a = lL b ↔ a = b := by
  constructor
  · intro h
    have := congrArg Int64.toInt h
    rwa [lL_toInt ha, lL_toInt hb] at this
  · intro h; rw [h]
theorem wi_div {a b : Int} (ha : bd6 a) (hb : bd6 b) (h0 : b ≠ 0) : clampV ((iI a).toInt64 / (iI b).toInt64).toInt = opV (-14) a b := by
  unfold bd6 at ha hb
  have := tdiv_bd (b := b) ha
  rw [i2l_iI (by omega), i2l_iI (by omega), lL_div (by omega) (by omega), lL_toInt (by omega)]
  rw [op_14, if_neg h0]
theorem wi_dv0 {a b : Int} (h0 : b = 0) : clampV (0 : Int64).toInt = opV (-14) a b := by
  rw [op_14, if_pos h0]
  rfl
theorem lcmp0 {x y : Int64} : lg_cmp x y = 0 ↔ x = y := by
  unfold lg_cmp
  constructor
  · intro h
    split at h
    · exact absurd h (by decide)
    · split at h
      · assumption
      · exact absurd h (by decide)
  · intro h
    subst h
    rw [if_neg (by show ¬ x < x; rw [Int64.lt_iff_toInt_lt]; omega), if_pos rfl]
theorem cmp_z {b : Int} (hb : bd6 b) : lg_cmp (iI b).toInt64 0 = 0 ↔ b = 0 := by
  unfold bd6 at hb
  rw [lcmp0, i2l_iI (by omega), lL_0, lL_eq (by omega) (by decide)]
/-! what a law's text can say -/
def ExC (P : Bool → Nat → CV → Prop) : Prop :=
  (∀ (m : Nat) (n : Int), 1 ≤ m → 0 ≤ n → n ≤ 99999 → P false m ([n], fun _ => n)) ∧
  (∀ (m j : Nat), 1 ≤ m → j < 6 → P false m ([-1 - (j : Int)], fun ev => ev j)) ∧
  (∀ (m m1 m2 : Nat) (o : Int) (x y : CV), P false m1 x → P false m2 y → (o = -11 ∨ o = -12 ∨ o = -13 ∨ o = -14) → m1 ≤ m → m2 < m → P false m (cvB o x y)) ∧
  (∀ (m m1 m2 : Nat) (o : Int) (x y : CV), P false m1 x → P false m2 y → (o = -15 ∨ o = -16 ∨ o = -17) → m1 ≤ m → m2 < m → P true m (cvB o x y)) ∧
  (∀ (m m1 m2 : Nat) (o : Int) (x y : CV), P true m1 x → P true m2 y → (o = -19 ∨ o = -20) → m1 ≤ m → m2 < m → P true m (cvB o x y)) ∧
  (∀ (m m1 : Nat) (x : CV), P true m1 x → m1 ≤ m → P true m (notC x))
def Ex (k : Bool) (m : Nat) (c : CV) : Prop := ∀ P, ExC P → P k m c
theorem Ex.num {m : Nat} {n : Int} (hm : 1 ≤ m) (h0 : 0 ≤ n) (h1 : n ≤ 99999) : Ex false m ([n], fun _ => n) := fun P h => h.1 m n hm h0 h1
theorem Ex.ltr {m j : Nat} (hm : 1 ≤ m) (hj : j < 6) : Ex false m ([-1 - (j : Int)], fun ev => ev j) := fun P h => h.2.1 m j hm hj
theorem Ex.ari {m m1 m2 : Nat} {o : Int} {x y : CV} (hx : Ex false m1 x) (hy : Ex false m2 y) (ho : o = -11 ∨ o = -12 ∨ o = -13 ∨ o = -14) (h1 : m1 ≤ m) (h2 : m2 < m) : Ex false m (cvB o x y) := fun P h => h.2.2.1 m m1 m2 o x y (hx P h) (hy P h) ho h1 h2
theorem Ex.cmp {m m1 m2 : Nat} {o : Int} {x y : CV} (hx : Ex false m1 x) (hy : Ex false m2 y) (ho : o = -15 ∨ o = -16 ∨ o = -17) (h1 : m1 ≤ m) (h2 : m2 < m) : Ex true m (cvB o x y) := fun P h => h.2.2.2.1 m m1 m2 o x y (hx P h) (hy P h) ho h1 h2
theorem Ex.log {m m1 m2 : Nat} {o : Int} {x y : CV} (hx : Ex true m1 x) (hy : Ex true m2 y) (ho : o = -19 ∨ o = -20) (h1 : m1 ≤ m) (h2 : m2 < m) : Ex true m (cvB o x y) := fun P h => h.2.2.2.2.1 m m1 m2 o x y (hx P h) (hy P h) ho h1 h2
theorem Ex.neg {m m1 : Nat} {x : CV} (hx : Ex true m1 x) (h1 : m1 ≤ m) : Ex true m (notC x) := fun P h => h.2.2.2.2.2 m m1 x (hx P h) h1
theorem Ex.mono {k : Bool} {m m' : Nat} {c : CV} (h : Ex k m c) (hm : m ≤ m') : Ex k m' c :=
  h (fun k m c => ∀ m', m ≤ m' → Ex k m' c) ⟨fun m n a b c m' h => Ex.num (by omega) b c, fun m j a b m' h => Ex.ltr (by omega) b,
    fun m m1 m2 o x y hx hy ho h1 h2 m' h => Ex.ari (hx m1 (Nat.le_refl _)) (hy m2 (Nat.le_refl _)) ho (by omega) (by omega),
    fun m m1 m2 o x y hx hy ho h1 h2 m' h => Ex.cmp (hx m1 (Nat.le_refl _)) (hy m2 (Nat.le_refl _)) ho (by omega) (by omega),
    fun m m1 m2 o x y hx hy ho h1 h2 m' h => Ex.log (hx m1 (Nat.le_refl _)) (hy m2 (Nat.le_refl _)) ho (by omega) (by omega),
    fun m m1 x hx h1 m' h => Ex.neg (hx m1 (Nat.le_refl _)) (by omega)⟩ m' hm
def bdK (k : Bool) (z : Int) : Prop := match k with
  | false => bd6 z
  | true => z = 0 ∨ z = 1
theorem if01 {p : Prop} [Decidable p] : (if p then (1 : Int) else 0) = 0 ∨ (if p then (1 : Int) else 0) = 1 := by split <;> omega
theorem Ex.bd {ev : Nat → Int} (he : ∀ j, j < 6 → bd6 (ev j)) {k : Bool} {m : Nat} {c : CV} (h : Ex k m c) : bdK k (c.2 ev) := by
  refine h (fun k m c => bdK k (c.2 ev)) ⟨fun m n a b c => ?_, fun m j a b => he _ b, fun m m1 m2 o x y _ _ c _ _ => ?_, fun m m1 m2 o x y _ _ c _ _ => ?_, fun m m1 m2 o x y _ _ c _ _ => ?_, fun m m1 x ih _ => ?_⟩
  · show bd6 _; unfold bd6; dsimp only; omega
  · show bd6 (opV o _ _)
    rcases c with h | h | h | h <;> rw [h] <;> first | (rw [op_11]; exact clamp_bd _) | (rw [op_12]; exact clamp_bd _) | (rw [op_13]; exact clamp_bd _) | (rw [op_14]; exact clamp_bd _)
  · show opV o _ _ = 0 ∨ opV o _ _ = 1
    rcases c with h | h | h <;> rw [h] <;> first | (rw [op_15]; exact if01) | (rw [op_16]; exact if01) | (rw [op_17]; exact if01)
  · show opV o _ _ = 0 ∨ opV o _ _ = 1
    rcases c with h | h <;> rw [h] <;> first | (rw [op_19]; exact if01) | (rw [op_20]; exact if01)
  · rcases ih with h | h <;> (show 1 - _ = 0 ∨ 1 - _ = 1; rw [h]; omega)
def GW (S : Nat → RS) (k : Bool) (m : Nat) : Prop := ∀ a q c, S a = (q, some c) → Ex k m c
theorem lpS_ex {t : List Nat} {item : Nat → RS} {c1 c2 o1 o2 : Int} {P Q : CV → Prop} (hi : ∀ a q x, item a = (q, some x) → P x) (h1 : ∀ c x, Q c → P x → Q (cvB o1 c x)) (h2 : ∀ c x, Q c → P x → Q (cvB o2 c x)) : ∀ (n a : Nat) (c : CV) (q : Nat) (r : CV), Q c → lpS t item c1 c2 o1 o2 n a c = (q, some r) → Q r
  | 0, a, c, q, r, _, h => by cases h
  | n + 1, a, c, q, r, hc, h => by
    unfold lpS at h
    split at h
    · cases e : item (sk t a + 1) with
      | mk p oc =>
        rw [e] at h
        cases oc with
        | none => cases h
        | some x => exact lpS_ex hi h1 h2 n p _ q r (h1 _ _ hc (hi _ _ _ e)) h
    · split at h
      · cases e : item (sk t a + 1) with
        | mk p oc =>
          rw [e] at h
          cases oc with
          | none => cases h
          | some x => exact lpS_ex hi h1 h2 n p _ q r (h2 _ _ hc (hi _ _ _ e)) h
      · cases h; exact hc
theorem rnS_ex {t : List Nat} {item : Nat → RS} {c1 c2 o1 o2 : Int} {P Q : CV → Prop} (hi : ∀ a q x, item a = (q, some x) → P x) (h0 : ∀ x, P x → Q x) (h1 : ∀ c x, Q c → P x → Q (cvB o1 c x)) (h2 : ∀ c x, Q c → P x → Q (cvB o2 c x)) (a q : Nat) (r : CV) (h : rnS t item c1 c2 o1 o2 a = (q, some r)) : Q r := by
  unfold rnS at h
  cases e : item a with
  | mk p oc =>
    rw [e] at h
    cases oc with
    | none => cases h
    | some x => exact lpS_ex hi h1 h2 _ _ _ _ _ (h0 _ (hi _ _ _ e)) h
theorem numL_ex {t : List Nat} {p q : Nat} {c : CV} (h : numL t p = (q, some c)) : Ex false 1 c := by
  by_cases d0 : isD t p
  · by_cases d1 : isD t (p + 1)
    · by_cases d2 : isD t (p + 2)
      · by_cases d3 : isD t (p + 3)
        · by_cases d4 : isD t (p + 4)
          · rw [numL_5 (fun i hi => by rcases (show i = 0 ∨ i = 1 ∨ i = 2 ∨ i = 3 ∨ i = 4 by omega) with rfl | rfl | rfl | rfl | rfl <;> assumption)] at h
            cases h
          · have hd : ∀ i, i < 4 → isD t (p + i) := fun i hi => by rcases (show i = 0 ∨ i = 1 ∨ i = 2 ∨ i = 3 by omega) with rfl | rfl | rfl | rfl <;> assumption
            have hv := nv_ge 4 hd
            rw [numL_k (k := 4) (by decide) (by decide) hd d4] at h
            cases h; exact Ex.num (by decide) hv.1 (by omega)
        · have hd : ∀ i, i < 3 → isD t (p + i) := fun i hi => by rcases (show i = 0 ∨ i = 1 ∨ i = 2 by omega) with rfl | rfl | rfl <;> assumption
          have hv := nv_ge 3 hd
          rw [numL_k (k := 3) (by decide) (by decide) hd d3] at h
          cases h; exact Ex.num (by decide) hv.1 (by omega)
      · have hd : ∀ i, i < 2 → isD t (p + i) := fun i hi => by rcases (show i = 0 ∨ i = 1 by omega) with rfl | rfl <;> assumption
        have hv := nv_ge 2 hd
        rw [numL_k (k := 2) (by decide) (by decide) hd d2] at h
        cases h; exact Ex.num (by decide) hv.1 (by omega)
    · have hd : ∀ i, i < 1 → isD t (p + i) := fun i hi => by rw [show i = 0 by omega]; exact d0
      have hv := nv_ge 1 hd
      rw [numL_k (k := 1) (by decide) (by decide) hd d1] at h
      cases h; exact Ex.num (by decide) hv.1 (by omega)
  · rw [numL_0 d0] at h; cases h
theorem sG_47 : (strB 4).length = 6 ∧ (strB 7).length = 6 ∧ ∀ j, j < 6 → sc 4 j = sc 7 j ∧ sc 7 j ≠ 91 ∧ 0 < sc 7 j ∧ sc 7 j < 128 := by decide +kernel
theorem atS_ex {t : List Nat} {rec : Option (Nat → RS)} {m : Nat} (hm : 1 ≤ m) (hr : ∀ f, rec = some f → GW f false m) : GW (atS t rec) false m := by
  intro a q c h
  unfold atS at h
  split at h
  · cases rec with
    | none => cases h
    | some f =>
      dsimp only at h
      cases e : f (sk t a + 1) with
      | mk p oc =>
        rw [e] at h
        cases oc with
        | none => cases h
        | some x =>
          dsimp only at h
          split at h
          · cases h; exact hr f rfl _ _ _ e
          · cases h
  · cases e : spG 4 (ch t (sk t a)) with
    | some j =>
      rw [e] at h
      cases h
      have := (spG_lt e).1
      rw [sG_47.1] at this
      exact Ex.ltr hm this
    | none =>
      rw [e] at h
      exact (numL_ex h).mono hm
theorem tmS_ex {t : List Nat} {rec : Option (Nat → RS)} {m : Nat} (hm : 1 ≤ m) (hr : ∀ f, rec = some f → GW f false m) : GW (tmS t rec) false (m + 1) :=
  fun a q r h => rnS_ex (P := Ex false m) (Q := Ex false (m + 1)) (atS_ex hm hr) (fun x hx => hx.mono (by omega)) (fun c x hc hx => Ex.ari hc hx (by omega) (by omega) (by omega)) (fun c x hc hx => Ex.ari hc hx (by omega) (by omega) (by omega)) a q r h
theorem smE_ex {t : List Nat} : ∀ e, GW (smE t e) false (2 * e + 3)
  | 0 => fun a q r h => rnS_ex (P := Ex false 2) (Q := Ex false 3) (tmS_ex (m := 1) (by decide) (fun f hf => by cases hf)) (fun x hx => hx.mono (by omega)) (fun c x hc hx => Ex.ari hc hx (by omega) (by omega) (by omega)) (fun c x hc hx => Ex.ari hc hx (by omega) (by omega) (by omega)) a q r h
  | e + 1 => fun a q r h => rnS_ex (P := Ex false (2 * e + 3 + 1)) (Q := Ex false (2 * (e + 1) + 3)) (tmS_ex (m := 2 * e + 3) (by omega) (fun f hf => by cases hf; exact smE_ex e)) (fun x hx => hx.mono (by omega)) (fun c x hc hx => Ex.ari hc hx (by omega) (by omega) (by omega)) (fun c x hc hx => Ex.ari hc hx (by omega) (by omega) (by omega)) a q r h
theorem recE_ex {t : List Nat} (e : Nat) : ∀ f, recE t e = some f → GW f false (2 * e + 1) := by
  intro f h
  cases e with
  | zero => cases h
  | succ e => cases h; exact fun a q c hc => (smE_ex e a q c hc).mono (by omega)
theorem atE_ex {t : List Nat} (e : Nat) : GW (atS t (recE t e)) false (2 * e + 1) := atS_ex (by omega) (recE_ex e)
theorem tmE_ex {t : List Nat} (e : Nat) : GW (tmS t (recE t e)) false (2 * e + 2) := tmS_ex (by omega) (recE_ex e)
theorem cmpO_in {c : Int} (h : cmpO c ≠ 0) : cmpO c = -15 ∨ cmpO c = -16 ∨ cmpO c = -17 := by
  unfold cmpO at h ⊢
  split
  · omega
  · split
    · omega
    · split
      · omega
      · rename_i a b c; rw [if_neg a, if_neg b, if_neg c] at h; exact absurd rfl h
theorem cpS_ex {t : List Nat} {e q r m m' : Nat} {x c : CV} (hx : Ex false m x) (hm : 2 * e + 3 < m') (hm2 : m ≤ m') (h : cpS t e q x = (r, some c)) : Ex true m' c := by
  unfold cpS at h
  split at h
  · cases h
  · rename_i hk
    cases e2 : smE t e (sk t q + 1) with
    | mk p oc =>
      rw [e2] at h
      cases oc with
      | none => cases h
      | some y => cases h; exact Ex.cmp hx (smE_ex e _ _ _ e2) (cmpO_in hk) hm2 hm
theorem cdS_ex {t : List Nat} {unit : Nat → RS} {m : Nat} (hu : GW unit true m) : GW (cdS t unit) true (m + 2) := by
  intro a q r h
  exact rnS_ex (P := Ex true (m + 1)) (Q := Ex true (m + 2)) (fun a q r h => rnS_ex (P := Ex true m) (Q := Ex true (m + 1)) hu (fun x hx => hx.mono (by omega)) (fun c x hc hx => Ex.log hc hx (by omega) (by omega) (by omega)) (fun c x hc hx => Ex.log hc hx (by omega) (by omega) (by omega)) a q r h) (fun x hx => hx.mono (by omega)) (fun c x hc hx => Ex.log hc hx (by omega) (by omega) (by omega)) (fun c x hc hx => Ex.log hc hx (by omega) (by omega) (by omega)) a q r h
theorem paS_ex {t : List Nat} {unit : Nat → RS} {m : Nat} (hu : GW unit true m) : GW (paS t unit) true (m + 1) :=
  fun a q r h => rnS_ex (P := Ex true m) (Q := Ex true (m + 1)) hu (fun x hx => hx.mono (by omega)) (fun c x hc hx => Ex.log hc hx (by omega) (by omega) (by omega)) (fun c x hc hx => Ex.log hc hx (by omega) (by omega) (by omega)) a q r h
theorem unS_ex {t : List Nat} {e m : Nat} {rec : Option (Nat → RS)} (hm : 2 * e + 4 ≤ m + 2) (hr : ∀ f, rec = some f → GW f true m) : GW (unS t e rec) true (m + 2) := by
  intro a q c h
  unfold unS at h
  split at h
  · cases rec with
    | none => cases h
    | some f =>
      dsimp only at h
      cases e : f (sk t a + 1) with
      | mk p oc =>
        rw [e] at h
        cases oc with
        | none => cases h
        | some x => cases h; exact Ex.neg (hr f rfl _ _ _ e) (by omega)
  · split at h
    · cases rec with
      | none => cases h
      | some f =>
        dsimp only at h
        cases e : cdS t f (sk t a + 1) with
        | mk p oc =>
          rw [e] at h
          cases oc with
          | none => cases h
          | some x =>
            dsimp only at h
            split at h
            · cases h; exact cdS_ex (hr f rfl) _ _ _ e
            · cases h
    · cases e2 : smE t e a with
      | mk p oc =>
        rw [e2] at h
        cases oc with
        | none => cases h
        | some x => exact cpS_ex (smE_ex e _ _ _ e2) (by omega) (by omega) h
theorem unE_ex {t : List Nat} : ∀ e, GW (unE t e) true (2 * e + 4)
  | 0 => unS_ex (m := 2) (by omega) (fun f h => by cases h)
  | e + 1 => unS_ex (m := 2 * e + 4) (by omega) (fun f h => by cases h; exact unE_ex e)
theorem muS_ex {t : List Nat} {e a q m m' : Nat} {x c : CV} (hx : Ex true m x) (hm : m ≤ m') (h2 : 2 * e + 4 < m') (h : muS t (unE t e) a x = (q, some c)) : Ex true m' c :=
  lpS_ex (P := Ex true (2 * e + 4)) (Q := Ex true m') (unE_ex e) (fun c x hc hx => Ex.log hc hx (by omega) (by omega) (by omega)) (fun c x hc hx => Ex.log hc hx (by omega) (by omega) (by omega)) _ _ _ _ _ (hx.mono hm) h
theorem mtS_ex {t : List Nat} {e a q m m' : Nat} {x c : CV} (hx : Ex true m x) (hm : m ≤ m') (h2 : 2 * e + 5 < m') (h : mtS t (unE t e) a x = (q, some c)) : Ex true m' c := by
  unfold mtS at h
  cases e1 : muS t (unE t e) a x with
  | mk p oc =>
    rw [e1] at h
    cases oc with
    | none => cases h
    | some y =>
      have hy := muS_ex (m' := m') hx hm (by omega) e1
      exact lpS_ex (P := Ex true (2 * e + 5)) (Q := Ex true m') (paS_ex (unE_ex e)) (fun c x hc hx => Ex.log hc hx (by omega) (by omega) (by omega)) (fun c x hc hx => Ex.log hc hx (by omega) (by omega) (by omega)) _ _ _ _ _ hy h
/-- the clauses of a law, and what it is worth -/
def ClOK (c : CL) : Prop := Ex false 15 c.2 ∧ ∀ x, c.1 = some x → Ex true 18 x
theorem anS_ex {t : List Nat} {q r : Nat} {y : CV} (h : anS t q = (r, some y)) : Ex false 15 y := by
  unfold anS at h
  split at h
  · exact smE_ex 6 _ _ _ h
  · cases h
theorem tlS_ex {t : List Nat} {q r m : Nat} {u : CV} {c : CL} (hu : Ex true m u) (hm : m ≤ 18) (h : tlS t q u = (r, some c)) : ClOK c := by
  unfold tlS at h
  cases e1 : mtS t (unE t 6) q u with
  | mk p oc =>
    rw [e1] at h
    cases oc with
    | none => cases h
    | some x =>
      dsimp only at h
      cases e2 : anS t p with
      | mk p2 oc2 =>
        rw [e2] at h
        cases oc2 with
        | none => cases h
        | some y =>
          cases h
          exact ⟨anS_ex e2, fun z hz => by cases hz; exact mtS_ex hu hm (by decide) e1⟩
theorem clC_ex {t : List Nat} {a q : Nat} {c : CL} (h : clC t a = (q, some c)) : ClOK c := by
  unfold clC at h
  split at h
  · split at h
    · unfold bdS at h
      split at h
      · cases e1 : unE t 6 (sk t (sk t a + 1) + 1) with
        | mk p oc =>
          rw [e1] at h
          cases oc with
          | none => cases h
          | some u => exact tlS_ex (unE_ex 6 _ _ _ e1) (by decide) h
      · cases e1 : smE t 6 (sk t (sk t a + 1) + 1) with
        | mk p oc =>
          rw [e1] at h
          cases oc with
          | none => cases h
          | some x =>
            dsimp only at h
            split at h
            · cases h; exact ⟨smE_ex 6 _ _ _ e1, fun z hz => by cases hz⟩
            · cases e2 : cpS t 6 p x with
              | mk p2 oc2 =>
                rw [e2] at h
                cases oc2 with
                | none => cases h
                | some u => exact tlS_ex (m := 16) (cpS_ex (smE_ex 6 _ _ _ e1) (by decide) (by decide) e2) (by decide) h
    · cases h
  · cases h
theorem lwS_ex {t : List Nat} : ∀ (n a : Nat) (L : List CL) (q : Nat) (L' : List CL), (∀ c, c ∈ L → ClOK c) → lwS t n a L = (q, some L') → ∀ c, c ∈ L' → ClOK c
  | 0, a, L, q, L', _, h => by cases h
  | n + 1, a, L, q, L', hL, h => by
    unfold lwS at h
    cases e1 : clC t a with
    | mk p oc =>
      rw [e1] at h
      cases oc with
      | none => cases h
      | some x =>
        have hx : ∀ c, c ∈ L ++ [x] → ClOK c := fun c hc => by
          rcases List.mem_append.mp hc with h1 | h1
          · exact hL c h1
          · rw [List.mem_singleton.mp h1]; exact clC_ex e1
        dsimp only at h
        split at h
        · cases h; exact hx
        · split at h
          · exact lwS_ex n _ _ _ _ hx h
          · cases h
def lawV (ev : Nat → Int) : List CL → Int
  | [] => 0
  | (none, y) :: _ => y.2 ev
  | (some x, y) :: L => if x.2 ev ≠ 0 then y.2 ev else lawV ev L
theorem lawV_bd {ev : Nat → Int} (he : ∀ j, j < 6 → bd6 (ev j)) : ∀ (L : List CL), (∀ c, c ∈ L → ClOK c) → bd6 (lawV ev L)
  | [], _ => by unfold lawV bd6; decide
  | (none, y) :: L, h => (h _ (List.mem_cons_self ..)).1.bd he
  | (some x, y) :: L, h => by
    unfold lawV
    split
    · exact (h _ (List.mem_cons_self ..)).1.bd he
    · exact lawV_bd he L (fun c hc => h c (List.mem_cons_of_mem _ hc))
