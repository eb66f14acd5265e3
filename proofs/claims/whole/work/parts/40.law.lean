/-! laws: what a text says, as signs (CV.1) and as what they are worth (CV.2) -/
abbrev CV : Type := List Int × ((Nat → Int) → Int)
abbrev RS : Type := Nat × Option CV
def clampV (z : Int) : Int := if 1000000 < z then 1000000 else if z < -1000000 then -1000000 else z
def opV (o a b : Int) : Int :=
  if o = -11 then clampV (a + b) else if o = -12 then clampV (a - b) else if o = -13 then clampV (a * b) else if o = -14 then clampV (if b = 0 then 0 else a.tdiv b)
  else if o = -15 then (if a = b then 1 else 0) else if o = -16 then (if a < b then 1 else 0) else if o = -17 then (if b < a then 1 else 0)
  else if o = -19 then (if a ≠ 0 ∧ b ≠ 0 then 1 else 0) else (if a ≠ 0 ∨ b ≠ 0 then 1 else 0)
def cvB (o : Int) (x y : CV) : CV := (x.1 ++ y.1 ++ [o], fun ev => opV o (x.2 ev) (y.2 ev))
/-- a number of at most four digits -/
def numL (t : List Nat) (p : Nat) : RS :=
  if ¬ (48 ≤ ch t p ∧ ch t p ≤ 57) then (p, none)
  else if ¬ (48 ≤ ch t (p + 1) ∧ ch t (p + 1) ≤ 57) then (p + 1, some ([nv t p 1], fun _ => nv t p 1))
  else if ¬ (48 ≤ ch t (p + 2) ∧ ch t (p + 2) ≤ 57) then (p + 2, some ([nv t p 2], fun _ => nv t p 2))
  else if ¬ (48 ≤ ch t (p + 3) ∧ ch t (p + 3) ≤ 57) then (p + 3, some ([nv t p 3], fun _ => nv t p 3))
  else if ¬ (48 ≤ ch t (p + 4) ∧ ch t (p + 4) ≤ 57) then (p + 4, some ([nv t p 4], fun _ => nv t p 4))
  else (p + 4, none)
theorem numL_0 {t : List Nat} {p : Nat} (h : ¬ isD t p) : numL t p = (p, none) := by unfold isD at h; unfold numL; rw [if_pos h]
theorem numL_k {t : List Nat} {p k : Nat} (h1 : 1 ≤ k) (h4 : k ≤ 4) (hd : ∀ i, i < k → isD t (p + i)) (hn : ¬ isD t (p + k)) : numL t p = (p + k, some ([nv t p k], fun _ => nv t p k)) := by
  have d0 := hd 0 (by omega)
  unfold isD at d0 hn
  rw [Nat.add_zero] at d0
  unfold numL
  rw [if_neg (fun q => q d0)]
  match k, h1, h4, hd, hn with
  | 1, _, _, hd, hn => rw [if_pos hn]
  | 2, _, _, hd, hn =>
    have d1 := hd 1 (by omega); unfold isD at d1
    rw [if_neg (fun q => q d1), if_pos hn]
  | 3, _, _, hd, hn =>
    have d1 := hd 1 (by omega); have d2 := hd 2 (by omega); unfold isD at d1 d2
    rw [if_neg (fun q => q d1), if_neg (fun q => q d2), if_pos hn]
  | 4, _, _, hd, hn =>
    have d1 := hd 1 (by omega); have d2 := hd 2 (by omega); have d3 := hd 3 (by omega); unfold isD at d1 d2 d3
    rw [if_neg (fun q => q d1), if_neg (fun q => q d2), if_neg (fun q => q d3), if_pos hn]
  | k + 5, _, h, _, _ => omega
theorem numL_5 {t : List Nat} {p : Nat} (hd : ∀ i, i ≤ 4 → isD t (p + i)) : numL t p = (p + 4, none) := by
  have d0 := hd 0 (by omega); have d1 := hd 1 (by omega); have d2 := hd 2 (by omega); have d3 := hd 3 (by omega); have d4 := hd 4 (by omega)
  unfold isD at d0 d1 d2 d3 d4
  rw [Nat.add_zero] at d0
  unfold numL
  rw [if_neg (fun q => q d0), if_neg (fun q => q d1), if_neg (fun q => q d2), if_neg (fun q => q d3), if_neg (fun q => q d4)]
/-- an atom; rec: a sum one deeper, if there may be one -/
def atS (t : List Nat) (rec : Option (Nat → RS)) (a : Nat) : RS :=
  if ch t (sk t a) = 91 then match rec with
    | none => (sk t a, none)
    | some f => match f (sk t a + 1) with
      | (q, none) => (q, none)
      | (q, some c) => if ch t (sk t q) = 93 then (sk t q + 1, some c) else (sk t q, none)
  else match spG 4 (ch t (sk t a)) with
    | some j => (sk t a + 1, some ([-1 - (j : Int)], fun ev => ev j))
    | none => numL t (sk t a)
/-- items with operators between them -/
def lpS (t : List Nat) (item : Nat → RS) (c1 c2 o1 o2 : Int) : Nat → Nat → CV → RS
  | 0, a, _ => (a, none)
  | n + 1, a, c => if ch t (sk t a) = c1 then (match item (sk t a + 1) with
      | (q, none) => (q, none)
      | (q, some x) => lpS t item c1 c2 o1 o2 n q (cvB o1 c x))
    else if ch t (sk t a) = c2 then (match item (sk t a + 1) with
      | (q, none) => (q, none)
      | (q, some x) => lpS t item c1 c2 o1 o2 n q (cvB o2 c x))
    else (sk t a, some c)
def rnS (t : List Nat) (item : Nat → RS) (c1 c2 o1 o2 : Int) (a : Nat) : RS := match item a with
  | (q, none) => (q, none)
  | (q, some x) => lpS t item c1 c2 o1 o2 242 q x
def tmS (t : List Nat) (rec : Option (Nat → RS)) : Nat → RS := rnS t (atS t rec) 42 47 (-13) (-14)
def smS (t : List Nat) (rec : Option (Nat → RS)) : Nat → RS := rnS t (tmS t rec) 43 45 (-11) (-12)
/-- a sum with e levels below it -/
def smE (t : List Nat) : Nat → Nat → RS
  | 0 => smS t none
  | e + 1 => smS t (some (smE t e))
def recE (t : List Nat) : Nat → Option (Nat → RS)
  | 0 => none
  | e + 1 => some (smE t e)
theorem smE_eq (t : List Nat) (e : Nat) : smE t e = smS t (recE t e) := by cases e <;> rfl
def cmpO (c : Int) : Int := if c = 61 then -15 else if c = 60 then -16 else if c = 62 then -17 else 0
/-- behind a comparison's first sum -/
def cpS (t : List Nat) (e : Nat) (q : Nat) (x : CV) : RS := if cmpO (ch t (sk t q)) = 0 then (sk t q, none) else match smE t e (sk t q + 1) with
  | (r, none) => (r, none)
  | (r, some y) => (r, some (cvB (cmpO (ch t (sk t q))) x y))
def notC (c : CV) : CV := (c.1 ++ [-18], fun ev => 1 - c.2 ev)
def paS (t : List Nat) (unit : Nat → RS) : Nat → RS := rnS t unit 38 38 (-19) (-19)
def cdS (t : List Nat) (unit : Nat → RS) : Nat → RS := rnS t (paS t unit) 124 124 (-20) (-20)
def unS (t : List Nat) (e : Nat) (rec : Option (Nat → RS)) (a : Nat) : RS :=
  if ch t (sk t a) = 33 then match rec with
    | none => (sk t a, none)
    | some f => match f (sk t a + 1) with
      | (q, none) => (q, none)
      | (q, some c) => (q, some (notC c))
  else if ch t (sk t a) = 40 then match rec with
    | none => (sk t a, none)
    | some f => match cdS t f (sk t a + 1) with
      | (q, none) => (q, none)
      | (q, some c) => if ch t (sk t q) = 41 then (sk t q + 1, some c) else (sk t q, none)
  else match smE t e a with
    | (q, none) => (q, none)
    | (q, some x) => cpS t e q x
def unE (t : List Nat) : Nat → Nat → RS
  | 0 => unS t 0 none
  | e + 1 => unS t (e + 1) (some (unE t e))
def urE (t : List Nat) : Nat → Option (Nat → RS)
  | 0 => none
  | e + 1 => some (unE t e)
theorem unE_eq (t : List Nat) (e : Nat) : unE t e = unS t e (urE t e) := by cases e <;> rfl
/-! how far they read, how many signs they make -/
def GD (t : List Nat) (S : Nat → RS) : Prop := ∀ a, a ≤ t.length → (S a).1 ≤ t.length ∧ a ≤ (S a).1 ∧ ∀ c, (S a).2 = some c → a < (S a).1 ∧ c.1.length + a ≤ (S a).1
theorem numL_gd {t : List Nat} {p : Nat} (hp : p ≤ t.length) : (numL t p).1 ≤ t.length ∧ p ≤ (numL t p).1 ∧ ∀ c, (numL t p).2 = some c → p < (numL t p).1 ∧ c.1.length + p ≤ (numL t p).1 := by
  by_cases d0 : isD t p
  · by_cases d1 : isD t (p + 1)
    · by_cases d2 : isD t (p + 2)
      · by_cases d3 : isD t (p + 3)
        · by_cases d4 : isD t (p + 4)
          · rw [numL_5 (fun i hi => by rcases (show i = 0 ∨ i = 1 ∨ i = 2 ∨ i = 3 ∨ i = 4 by omega) with rfl | rfl | rfl | rfl | rfl <;> assumption)]
            have := isD_lt d4
            exact ⟨by dsimp only; omega, by dsimp only; omega, fun c h => by cases h⟩
          · rw [numL_k (k := 4) (by decide) (by decide) (fun i hi => by rcases (show i = 0 ∨ i = 1 ∨ i = 2 ∨ i = 3 by omega) with rfl | rfl | rfl | rfl <;> assumption) d4]
            have := isD_lt d3
            exact ⟨by dsimp only; omega, by dsimp only; omega, fun c h => by cases h; exact ⟨by dsimp only; omega, by dsimp only [List.length]; omega⟩⟩
        · rw [numL_k (k := 3) (by decide) (by decide) (fun i hi => by rcases (show i = 0 ∨ i = 1 ∨ i = 2 by omega) with rfl | rfl | rfl <;> assumption) d3]
          have := isD_lt d2
          exact ⟨by dsimp only; omega, by dsimp only; omega, fun c h => by cases h; exact ⟨by dsimp only; omega, by dsimp only [List.length]; omega⟩⟩
      · rw [numL_k (k := 2) (by decide) (by decide) (fun i hi => by rcases (show i = 0 ∨ i = 1 by omega) with rfl | rfl <;> assumption) d2]
        have := isD_lt d1
        exact ⟨by dsimp only; omega, by dsimp only; omega, fun c h => by cases h; exact ⟨by dsimp only; omega, by dsimp only [List.length]; omega⟩⟩
    · rw [numL_k (k := 1) (by decide) (by decide) (fun i hi => by rw [show i = 0 by omega]; exact d0) d1]
      have := isD_lt d0
      exact ⟨by dsimp only; omega, by dsimp only; omega, fun c h => by cases h; exact ⟨by dsimp only; omega, by dsimp only [List.length]; omega⟩⟩
  · rw [numL_0 d0]
    exact ⟨hp, Nat.le_refl _, fun c h => by cases h⟩
theorem atS_gd {t : List Nat} {rec : Option (Nat → RS)} (hr : ∀ f, rec = some f → GD t f) : GD t (atS t rec) := by
  intro a ha
  have h0 := sk_le ha
  have h1 := sk_ge t a
  unfold atS
  by_cases c1 : ch t (sk t a) = 91
  · rw [if_pos c1]
    have hl := sk_lt_of c1 (by decide)
    cases rec with
    | none => exact ⟨h0, h1, fun c h => by cases h⟩
    | some f =>
      have hf := hr f rfl (sk t a + 1) hl
      dsimp only
      cases e : f (sk t a + 1) with
      | mk q oc =>
        rw [e] at hf
        cases oc with
        | none => exact ⟨hf.1, by dsimp only at hf ⊢; omega, fun c h => by cases h⟩
        | some c =>
          have h2 := sk_le hf.1
          have h3 := sk_ge t q
          have h4 := hf.2.2 c rfl
          dsimp only at hf h2 h4 ⊢
          by_cases c2 : ch t (sk t q) = 93
          · rw [if_pos c2]
            have := sk_lt_of c2 (by decide)
            exact ⟨this, by dsimp only; omega, fun c' h => by cases h; exact ⟨by dsimp only; omega, by dsimp only; omega⟩⟩
          · rw [if_neg c2]
            exact ⟨h2, by dsimp only; omega, fun c h => by cases h⟩
  · rw [if_neg c1]
    cases e : spG 4 (ch t (sk t a)) with
    | some j =>
      have h2 := sk_lt_of (t := t) (a := a) (spG_lt e).2.symm (by have := (sc_ok 4 (by decide)).2 j (spG_lt e).1; omega)
      exact ⟨h2, by dsimp only; omega, fun c h => by cases h; exact ⟨by dsimp only; omega, by dsimp only [List.length]; omega⟩⟩
    | none =>
      have := numL_gd (t := t) h0
      dsimp only
      exact ⟨this.1, by omega, fun c h => ⟨by have := this.2.2 c h; omega, by have := this.2.2 c h; omega⟩⟩
theorem lpS_gd {t : List Nat} {item : Nat → RS} {c1 c2 o1 o2 : Int} (hi : GD t item) (n1 : c1 ≠ -1) (n2 : c2 ≠ -1) : ∀ (n a : Nat) (c : CV), a ≤ t.length → (lpS t item c1 c2 o1 o2 n a c).1 ≤ t.length ∧ a ≤ (lpS t item c1 c2 o1 o2 n a c).1 ∧ ∀ x, (lpS t item c1 c2 o1 o2 n a c).2 = some x → x.1.length + a ≤ (lpS t item c1 c2 o1 o2 n a c).1 + c.1.length
  | 0, a, c, ha => ⟨ha, Nat.le_refl _, fun x h => by cases h⟩
  | n + 1, a, c, ha => by
    have h0 := sk_le ha
    have h1 := sk_ge t a
    unfold lpS
    by_cases k1 : ch t (sk t a) = c1
    · rw [if_pos k1]
      have hl := sk_lt_of k1 n1
      have hf := hi (sk t a + 1) hl
      cases e : item (sk t a + 1) with
      | mk q oc =>
        rw [e] at hf
        cases oc with
        | none => exact ⟨hf.1, by dsimp only at hf ⊢; omega, fun x h => by cases h⟩
        | some x =>
          have h4 := hf.2.2 x rfl
          have ih := lpS_gd (o1 := o1) (o2 := o2) hi n1 n2 n q (cvB o1 c x) hf.1
          dsimp only at hf h4 ⊢
          refine ⟨ih.1, by omega, fun y hy => ?_⟩
          have := ih.2.2 y hy
          have e2 : (cvB o1 c x).1.length = c.1.length + x.1.length + 1 := by unfold cvB; simp only [List.length_append, List.length_cons, List.length_nil]
          omega
    · rw [if_neg k1]
      by_cases k2 : ch t (sk t a) = c2
      · rw [if_pos k2]
        have hl := sk_lt_of k2 n2
        have hf := hi (sk t a + 1) hl
        cases e : item (sk t a + 1) with
        | mk q oc =>
          rw [e] at hf
          cases oc with
          | none => exact ⟨hf.1, by dsimp only at hf ⊢; omega, fun x h => by cases h⟩
          | some x =>
            have h4 := hf.2.2 x rfl
            have ih := lpS_gd (o1 := o1) (o2 := o2) hi n1 n2 n q (cvB o2 c x) hf.1
            dsimp only at hf h4 ⊢
            refine ⟨ih.1, by omega, fun y hy => ?_⟩
            have := ih.2.2 y hy
            have e2 : (cvB o2 c x).1.length = c.1.length + x.1.length + 1 := by unfold cvB; simp only [List.length_append, List.length_cons, List.length_nil]
            omega
      · rw [if_neg k2]
        exact ⟨h0, h1, fun x h => by cases h; dsimp only; omega⟩
theorem rnS_gd {t : List Nat} {item : Nat → RS} {c1 c2 o1 o2 : Int} (hi : GD t item) (n1 : c1 ≠ -1) (n2 : c2 ≠ -1) : GD t (rnS t item c1 c2 o1 o2) := by
  intro a ha
  have hf := hi a ha
  unfold rnS
  cases e : item a with
  | mk q oc =>
    rw [e] at hf
    cases oc with
    | none => exact ⟨hf.1, hf.2.1, fun c h => by cases h⟩
    | some x =>
      have h4 := hf.2.2 x rfl
      have ih := lpS_gd (o1 := o1) (o2 := o2) hi n1 n2 242 q x hf.1
      dsimp only at hf h4 ⊢
      refine ⟨ih.1, by omega, fun y hy => ⟨by omega, ?_⟩⟩
      have := ih.2.2 y hy
      omega
theorem smE_gd {t : List Nat} : ∀ e, GD t (smE t e)
  | 0 => by
    show GD t (smS t none)
    exact rnS_gd (rnS_gd (atS_gd (fun f h => by cases h)) (by decide) (by decide)) (by decide) (by decide)
  | e + 1 => by
    show GD t (smS t (some (smE t e)))
    exact rnS_gd (rnS_gd (atS_gd (fun f h => by cases h; exact smE_gd e)) (by decide) (by decide)) (by decide) (by decide)
theorem recE_gd {t : List Nat} (e : Nat) : ∀ f, recE t e = some f → GD t f := by
  intro f h
  cases e with
  | zero => cases h
  | succ e => cases h; exact smE_gd e
theorem atE_gd {t : List Nat} (e : Nat) : GD t (atS t (recE t e)) := atS_gd (recE_gd e)
theorem tmE_gd {t : List Nat} (e : Nat) : GD t (tmS t (recE t e)) := rnS_gd (atE_gd e) (by decide) (by decide)
theorem cmp_gt {c : Int} (h : cmpO c ≠ 0) : c = 60 ∨ c = 61 ∨ c = 62 := by
  unfold cmpO at h
  split at h
  · omega
  · split at h
    · omega
    · split at h
      · omega
      · exact absurd rfl h
theorem cpS_gd {t : List Nat} {e q : Nat} {x : CV} (hq : q ≤ t.length) : (cpS t e q x).1 ≤ t.length ∧ q ≤ (cpS t e q x).1 ∧ ∀ c, (cpS t e q x).2 = some c → c.1.length + q ≤ (cpS t e q x).1 + x.1.length := by
  have h0 := sk_le hq
  have h1 := sk_ge t q
  unfold cpS
  by_cases k : cmpO (ch t (sk t q)) = 0
  · rw [if_pos k]; exact ⟨h0, h1, fun c h => by cases h⟩
  · rw [if_neg k]
    have hl := sk_lt_of (t := t) (a := q) rfl (by have := cmp_gt k; omega)
    have hf := smE_gd e (sk t q + 1) hl
    cases e2 : smE t e (sk t q + 1) with
    | mk r oc =>
      rw [e2] at hf
      cases oc with
      | none => exact ⟨hf.1, by dsimp only at hf ⊢; omega, fun c h => by cases h⟩
      | some y =>
        have h4 := hf.2.2 y rfl
        dsimp only at hf h4 ⊢
        refine ⟨hf.1, by omega, fun c h => ?_⟩
        cases h
        unfold cvB
        simp only [List.length_append, List.length_cons, List.length_nil]
        omega
theorem unS_gd {t : List Nat} {e : Nat} {rec : Option (Nat → RS)} (hr : ∀ f, rec = some f → GD t f) : GD t (unS t e rec) := by
  intro a ha
  have h0 := sk_le ha
  have h1 := sk_ge t a
  unfold unS
  by_cases k1 : ch t (sk t a) = 33
  · rw [if_pos k1]
    have hl := sk_lt_of k1 (by decide)
    cases rec with
    | none => exact ⟨h0, h1, fun c h => by cases h⟩
    | some f =>
      have hf := hr f rfl (sk t a + 1) hl
      dsimp only
      cases e : f (sk t a + 1) with
      | mk q oc =>
        rw [e] at hf
        cases oc with
        | none => exact ⟨hf.1, by dsimp only at hf ⊢; omega, fun c h => by cases h⟩
        | some c =>
          have h4 := hf.2.2 c rfl
          dsimp only at hf h4 ⊢
          refine ⟨hf.1, by omega, fun c' h => ?_⟩
          cases h
          unfold notC
          simp only [List.length_append, List.length_cons, List.length_nil]
          omega
  · rw [if_neg k1]
    by_cases k2 : ch t (sk t a) = 40
    · rw [if_pos k2]
      have hl := sk_lt_of k2 (by decide)
      cases rec with
      | none => exact ⟨h0, h1, fun c h => by cases h⟩
      | some f =>
        have hf := (rnS_gd (o1 := -20) (o2 := -20) (c1 := 124) (c2 := 124) (rnS_gd (o1 := -19) (o2 := -19) (c1 := 38) (c2 := 38) (hr f rfl) (by decide) (by decide)) (by decide) (by decide)) (sk t a + 1) hl
        dsimp only
        unfold cdS paS
        cases e : rnS t (rnS t f 38 38 (-19) (-19)) 124 124 (-20) (-20) (sk t a + 1) with
        | mk q oc =>
          rw [e] at hf
          cases oc with
          | none => exact ⟨hf.1, by dsimp only at hf ⊢; omega, fun c h => by cases h⟩
          | some c =>
            have h2 := sk_le hf.1
            have h3 := sk_ge t q
            have h4 := hf.2.2 c rfl
            dsimp only at hf h2 h4 ⊢
            by_cases c2 : ch t (sk t q) = 41
            · rw [if_pos c2]
              have := sk_lt_of c2 (by decide)
              exact ⟨this, by dsimp only; omega, fun c' h => by cases h; exact ⟨by dsimp only; omega, by dsimp only; omega⟩⟩
            · rw [if_neg c2]
              exact ⟨h2, by dsimp only; omega, fun c h => by cases h⟩
    · rw [if_neg k2]
      have hf := smE_gd e a ha
      cases e2 : smE t e a with
      | mk q oc =>
        rw [e2] at hf
        cases oc with
        | none => exact ⟨hf.1, hf.2.1, fun c h => by cases h⟩
        | some x =>
          have h4 := hf.2.2 x rfl
          have h5 := cpS_gd (e := e) (x := x) hf.1
          dsimp only at hf h4 h5 ⊢
          exact ⟨h5.1, by omega, fun c h => ⟨by omega, by have := h5.2.2 c h; omega⟩⟩
theorem unE_gd {t : List Nat} : ∀ e, GD t (unE t e)
  | 0 => unS_gd (fun f h => by cases h)
  | e + 1 => unS_gd (fun f h => by cases h; exact unE_gd e)
