/-! groups of joined ponds -/
theorem b_or2 : ∀ a, a < 128 → ∀ b, b < 128 → iI (a : Nat) ||| iI (b : Nat) = iI ((a ||| b : Nat) : Int) := by decide +kernel
theorem b_and2 : ∀ a, a < 128 → ∀ b, b < 128 → iI (a : Nat) &&& iI (b : Nat) = iI ((a &&& b : Nat) : Int) := by decide +kernel
theorem pop_up : ∀ a, a < 128 → ∀ b, b < 128 → (a ||| b) ≠ a → pop9 a < pop9 (a ||| b) := by decide +kernel
theorem pop_2 : ∀ p, p < 7 → pop9 (2 ^ p) = 1 := by decide +kernel
theorem bc_ok : ∀ m, m < 512 → pop9 m ≤ 9 := by decide +kernel
def ownF (s : PS) (k : Nat) : Nat := 2 ^ pe s k 0 ||| 2 ^ pe s k 1
def stG (s : PS) (m k g : Nat) : Nat := if m / 2 ^ k % 2 = 1 ∧ g &&& ownF s k ≠ 0 then g ||| ownF s k else g
def pgF (s : PS) (m g : Nat) : Nat → Nat
  | 0 => g
  | k + 1 => stG s m k (pgF s m g k)
def rdF (s : PS) (m g : Nat) : Nat := pgF s m g (nQ s)
def grF (s : PS) (m p : Nat) : Nat → Nat
  | 0 => 2 ^ p
  | r + 1 => rdF s m (grF s m p r)
theorem or_lt2 {a b n : Nat} (h1 : a < 2 ^ n) (h2 : b < 2 ^ n) : (a ||| b) < 2 ^ n := Nat.or_lt_two_pow h1 h2
theorem pw_mono {a b : Nat} (h : a < b) : 2 ^ a < 2 ^ b := Nat.pow_lt_pow_right (by decide) h
theorem own_lt {s : PS} (hS : TwK s) {k : Nat} (hk : k < nQ s) : ownF s k < 2 ^ nP s := by
  have := pe_ok hS hk
  exact or_lt2 (pw_mono this.2.2.1) (pw_mono this.2.2.2.1)
theorem p128 {s : PS} (hS : TwK s) {g : Nat} (h : g < 2 ^ nP s) : g < 128 := Nat.lt_of_lt_of_le h (Nat.pow_le_pow_right (by decide) hS.1)
theorem stG_lt {s : PS} (hS : TwK s) {m k g : Nat} (hk : k < nQ s) (h : g < 2 ^ nP s) : stG s m k g < 2 ^ nP s := by
  unfold stG
  split
  · exact or_lt2 h (own_lt hS hk)
  · exact h
theorem pgF_lt {s : PS} (hS : TwK s) {m g : Nat} (h : g < 2 ^ nP s) : ∀ k, k ≤ nQ s → pgF s m g k < 2 ^ nP s
  | 0, _ => h
  | k + 1, hk => stG_lt hS (by omega) (pgF_lt hS h k (by omega))
theorem grF_lt {s : PS} (hS : TwK s) {m p : Nat} (hp : p < nP s) : ∀ r, grF s m p r < 2 ^ nP s
  | 0 => pw_mono hp
  | r + 1 => pgF_lt hS (grF_lt hS hp r) _ (Nat.le_refl _)
/-- sets: a within b -/
def sbS (a b : Nat) : Prop := a ||| b = b
theorem sbS_iff {a b : Nat} : sbS a b ↔ ∀ i, a.testBit i = true → b.testBit i = true := by
  constructor
  · intro h i hi
    have : (a ||| b).testBit i = b.testBit i := by rw [h]
    rw [Nat.testBit_or, hi] at this
    simpa using this.symm
  · intro h
    apply Nat.eq_of_testBit_eq
    intro i
    rw [Nat.testBit_or]
    cases ha : a.testBit i with
    | false => simp
    | true => rw [h i ha]; rfl
theorem sbS_or {a b : Nat} : sbS a (a ||| b) := by rw [sbS_iff]; intro i hi; rw [Nat.testBit_or, hi]; rfl
theorem sbS_tr {a b c : Nat} (h : sbS a b) (g : sbS b c) : sbS a c := by rw [sbS_iff] at *; exact fun i hi => g i (h i hi)
theorem sbS_rf {a : Nat} : sbS a a := by rw [sbS_iff]; exact fun i hi => hi
theorem sbS_as {a b : Nat} (h : sbS a b) (g : sbS b a) : a = b := by
  unfold sbS at h g
  rw [← h]
  rw [Nat.or_comm] at g
  exact g.symm
theorem sbS_un {a b c : Nat} (h : sbS a c) (g : sbS b c) : sbS (a ||| b) c := by
  rw [sbS_iff] at *
  intro i hi
  rw [Nat.testBit_or] at hi
  cases ha : a.testBit i with
  | true => exact h i ha
  | false => rw [ha] at hi; exact g i (by simpa using hi)
theorem stG_sb {s : PS} {m k g : Nat} : sbS g (stG s m k g) := by
  unfold stG
  split
  · exact sbS_or
  · exact sbS_rf
theorem pgF_sb {s : PS} {m g : Nat} : ∀ k j, sbS (pgF s m g k) (pgF s m g (k + j))
  | k, 0 => sbS_rf
  | k, j + 1 => sbS_tr (pgF_sb k j) stG_sb
theorem pop_sb {a b : Nat} (ha : a < 128) (hb : b < 128) (h : sbS a b) (hne : b ≠ a) : pop9 a < pop9 b := by
  have := pop_up a ha b hb (by rw [h]; exact hne)
  rwa [h] at this
theorem grF_st {s : PS} (hS : TwK s) {m p : Nat} (hp : p < nP s) : ∀ r, grF s m p r = grF s m p (r + 1) ∨ r + 2 ≤ pop9 (grF s m p (r + 1))
  | 0 => by
    by_cases h : grF s m p 0 = grF s m p 1
    · exact Or.inl h
    · right
      have := pop_sb (p128 hS (grF_lt hS hp 0)) (p128 hS (grF_lt (m := m) hS hp 1)) (pgF_sb (s := s) (m := m) (g := grF s m p 0) 0 (nQ s) |> fun q => by rw [Nat.zero_add] at q; exact q) (fun q => h q.symm)
      have h1 : pop9 (grF s m p 0) = 1 := pop_2 p (by have := hS.1; omega)
      show 0 + 2 ≤ pop9 (grF s m p 1)
      omega
  | r + 1 => by
    rcases grF_st hS (m := m) hp r with h | h
    · left
      show rdF s m (grF s m p r) = rdF s m (grF s m p (r + 1))
      rw [← h]
    · by_cases h2 : grF s m p (r + 1) = grF s m p (r + 1 + 1)
      · exact Or.inl h2
      · right
        have := pop_sb (p128 hS (grF_lt hS hp (r + 1))) (p128 hS (grF_lt (m := m) hS hp (r + 1 + 1))) (pgF_sb (s := s) (m := m) (g := grF s m p (r + 1)) 0 (nQ s) |> fun q => by rw [Nat.zero_add] at q; exact q) (fun q => h2 q.symm)
        omega
def grpF (s : PS) (m p : Nat) : Nat := grF s m p (nP s)
theorem grF_fix {s : PS} (hS : TwK s) {m p : Nat} (hp : p < nP s) : grF s m p (nP s - 1) = grpF s m p := by
  have hP7 := hS.1
  rcases grF_st hS (m := m) hp (nP s - 1) with h | h
  · rw [show nP s - 1 + 1 = nP s by omega] at h; exact h
  · exfalso
    rw [show nP s - 1 + 1 = nP s by omega] at h
    have hl := grF_lt hS (m := m) hp (nP s)
    have := pop_le _ (Nat.lt_trans (p128 hS hl) (by decide)) (nP s) (by omega) hl
    omega
theorem grp_lt {s : PS} (hS : TwK s) {m p : Nat} (hp : p < nP s) : grpF s m p < 128 := p128 hS (grF_lt hS hp _)
theorem own_or {s : PS} (hS : TwK s) {k : Nat} (hk : k < nQ s) : iI ((2 ^ pe s k 0 : Nat) : Int) ||| iI ((2 ^ pe s k 1 : Nat) : Int) = iI (ownF s k : Nat) := by
  have := pe_ok hS hk
  exact b_or2 _ (p128 hS (pw_mono this.2.2.1)) _ (p128 hS (pw_mono this.2.2.2.1))
theorem stG_n {s : PS} {m k g : Nat} (h : m / 2 ^ k % 2 = 0 ∨ g &&& ownF s k = 0) : stG s m k g = g := by
  unfold stG
  rw [if_neg]
  rintro ⟨h1, h2⟩
  rcases h with h | h
  · omega
  · exact h2 h
theorem stG_y {s : PS} {m k g : Nat} (h1 : m / 2 ^ k % 2 = 1) (h2 : g &&& ownF s k ≠ 0) : stG s m k g = g ||| ownF s k := if_pos ⟨h1, h2⟩
set_option maxRecDepth 10000 in
theorem bc9 : ∀ m, m < 512 → (((((((iI (m : Nat) - (((iI (m : Nat)).toUInt32 >>> ((iI 1).toUInt32 &&& Int32.toUInt32 31)).toInt32 &&& 1431655765)) &&& 858993459) + ((((iI (m : Nat) - (((iI (m : Nat)).toUInt32 >>> ((iI 1).toUInt32 &&& Int32.toUInt32 31)).toInt32 &&& 1431655765))).toUInt32 >>> ((iI 2).toUInt32 &&& Int32.toUInt32 31)).toInt32 &&& 858993459)) + (((((iI (m : Nat) - (((iI (m : Nat)).toUInt32 >>> ((iI 1).toUInt32 &&& Int32.toUInt32 31)).toInt32 &&& 1431655765)) &&& 858993459) + ((((iI (m : Nat) - (((iI (m : Nat)).toUInt32 >>> ((iI 1).toUInt32 &&& Int32.toUInt32 31)).toInt32 &&& 1431655765))).toUInt32 >>> ((iI 2).toUInt32 &&& Int32.toUInt32 31)).toInt32 &&& 858993459))).toUInt32 >>> ((iI 4).toUInt32 &&& Int32.toUInt32 31)).toInt32) &&& 252645135) + (((((((iI (m : Nat) - (((iI (m : Nat)).toUInt32 >>> ((iI 1).toUInt32 &&& Int32.toUInt32 31)).toInt32 &&& 1431655765)) &&& 858993459) + ((((iI (m : Nat) - (((iI (m : Nat)).toUInt32 >>> ((iI 1).toUInt32 &&& Int32.toUInt32 31)).toInt32 &&& 1431655765))).toUInt32 >>> ((iI 2).toUInt32 &&& Int32.toUInt32 31)).toInt32 &&& 858993459)) + (((((iI (m : Nat) - (((iI (m : Nat)).toUInt32 >>> ((iI 1).toUInt32 &&& Int32.toUInt32 31)).toInt32 &&& 1431655765)) &&& 858993459) + ((((iI (m : Nat) - (((iI (m : Nat)).toUInt32 >>> ((iI 1).toUInt32 &&& Int32.toUInt32 31)).toInt32 &&& 1431655765))).toUInt32 >>> ((iI 2).toUInt32 &&& Int32.toUInt32 31)).toInt32 &&& 858993459))).toUInt32 >>> ((iI 4).toUInt32 &&& Int32.toUInt32 31)).toInt32) &&& 252645135)).toUInt32 >>> ((iI 8).toUInt32 &&& Int32.toUInt32 31)).toInt32) + ((((((((iI (m : Nat) - (((iI (m : Nat)).toUInt32 >>> ((iI 1).toUInt32 &&& Int32.toUInt32 31)).toInt32 &&& 1431655765)) &&& 858993459) + ((((iI (m : Nat) - (((iI (m : Nat)).toUInt32 >>> ((iI 1).toUInt32 &&& Int32.toUInt32 31)).toInt32 &&& 1431655765))).toUInt32 >>> ((iI 2).toUInt32 &&& Int32.toUInt32 31)).toInt32 &&& 858993459)) + (((((iI (m : Nat) - (((iI (m : Nat)).toUInt32 >>> ((iI 1).toUInt32 &&& Int32.toUInt32 31)).toInt32 &&& 1431655765)) &&& 858993459) + ((((iI (m : Nat) - (((iI (m : Nat)).toUInt32 >>> ((iI 1).toUInt32 &&& Int32.toUInt32 31)).toInt32 &&& 1431655765))).toUInt32 >>> ((iI 2).toUInt32 &&& Int32.toUInt32 31)).toInt32 &&& 858993459))).toUInt32 >>> ((iI 4).toUInt32 &&& Int32.toUInt32 31)).toInt32) &&& 252645135) + (((((((iI (m : Nat) - (((iI (m : Nat)).toUInt32 >>> ((iI 1).toUInt32 &&& Int32.toUInt32 31)).toInt32 &&& 1431655765)) &&& 858993459) + ((((iI (m : Nat) - (((iI (m : Nat)).toUInt32 >>> ((iI 1).toUInt32 &&& Int32.toUInt32 31)).toInt32 &&& 1431655765))).toUInt32 >>> ((iI 2).toUInt32 &&& Int32.toUInt32 31)).toInt32 &&& 858993459)) + (((((iI (m : Nat) - (((iI (m : Nat)).toUInt32 >>> ((iI 1).toUInt32 &&& Int32.toUInt32 31)).toInt32 &&& 1431655765)) &&& 858993459) + ((((iI (m : Nat) - (((iI (m : Nat)).toUInt32 >>> ((iI 1).toUInt32 &&& Int32.toUInt32 31)).toInt32 &&& 1431655765))).toUInt32 >>> ((iI 2).toUInt32 &&& Int32.toUInt32 31)).toInt32 &&& 858993459))).toUInt32 >>> ((iI 4).toUInt32 &&& Int32.toUInt32 31)).toInt32) &&& 252645135)).toUInt32 >>> ((iI 8).toUInt32 &&& Int32.toUInt32 31)).toInt32)).toUInt32 >>> ((iI 16).toUInt32 &&& Int32.toUInt32 31)).toInt32) &&& iI 63 = iI ((pop9 m : Nat) : Int) := by decide +kernel
theorem ct_J6_bitCount_0f7a4 {l : Launch} {D : va_G} {cA ad : Nat → Nat} {d : Nat} {σ : AS} {K : Option Value → AS → Prop} {m : Nat} (hm : m < 512) (hK : K (some (.int (iI (pop9 m : Nat)))) σ) : Call l D cA ad d mJ6_bitCount_0f7a4 [.int (iI m)] σ K := by
  have h9 : ∀ x : Int32, x = iI ((pop9 m : Nat) : Int) → K (some (.int x)) σ := fun x hx => by rw [hx]; exact hK
  refine call_go (by decide) (Nat.le_of_ble_eq_true rfl) (show Go l D cA ad d mJ6_bitCount_0f7a4 0 [.int (iI m)] [] σ K from ?_)
  refine go_iload_n dJ6_bitCount_0f7a4_0 rfl ?_
  refine go_iload_n dJ6_bitCount_0f7a4_1 rfl ?_
  refine go_iconst (v := iI 1) dJ6_bitCount_0f7a4_2 (by decide) ?_
  refine go_iushr dJ6_bitCount_0f7a4_3 ?_
  refine go_ldcw lJ6_265 dJ6_bitCount_0f7a4_4 ?_
  refine go_iand dJ6_bitCount_0f7a4_7 ?_
  refine go_isub dJ6_bitCount_0f7a4_8 ?_
  refine go_istore_n dJ6_bitCount_0f7a4_9 (Nat.le_of_ble_eq_true rfl) rfl ?_
  refine go_iload_n dJ6_bitCount_0f7a4_10 rfl ?_
  refine go_ldcw lJ6_266 dJ6_bitCount_0f7a4_11 ?_
  refine go_iand dJ6_bitCount_0f7a4_14 ?_
  refine go_iload_n dJ6_bitCount_0f7a4_15 rfl ?_
  refine go_iconst (v := iI 2) dJ6_bitCount_0f7a4_16 (by decide) ?_
  refine go_iushr dJ6_bitCount_0f7a4_17 ?_
  refine go_ldcw lJ6_266 dJ6_bitCount_0f7a4_18 ?_
  refine go_iand dJ6_bitCount_0f7a4_21 ?_
  refine go_iadd dJ6_bitCount_0f7a4_22 ?_
  refine go_istore_n dJ6_bitCount_0f7a4_23 (Nat.le_of_ble_eq_true rfl) rfl ?_
  refine go_iload_n dJ6_bitCount_0f7a4_24 rfl ?_
  refine go_iload_n dJ6_bitCount_0f7a4_25 rfl ?_
  refine go_iconst (v := iI 4) dJ6_bitCount_0f7a4_26 (by decide) ?_
  refine go_iushr dJ6_bitCount_0f7a4_27 ?_
  refine go_iadd dJ6_bitCount_0f7a4_28 ?_
  refine go_ldcw lJ6_267 dJ6_bitCount_0f7a4_29 ?_
  refine go_iand dJ6_bitCount_0f7a4_32 ?_
  refine go_istore_n dJ6_bitCount_0f7a4_33 (Nat.le_of_ble_eq_true rfl) rfl ?_
  refine go_iload_n dJ6_bitCount_0f7a4_34 rfl ?_
  refine go_iload_n dJ6_bitCount_0f7a4_35 rfl ?_
  refine go_bipush (v := iI 8) dJ6_bitCount_0f7a4_36 (by decide) ?_
  refine go_iushr dJ6_bitCount_0f7a4_38 ?_
  refine go_iadd dJ6_bitCount_0f7a4_39 ?_
  refine go_istore_n dJ6_bitCount_0f7a4_40 (Nat.le_of_ble_eq_true rfl) rfl ?_
  refine go_iload_n dJ6_bitCount_0f7a4_41 rfl ?_
  refine go_iload_n dJ6_bitCount_0f7a4_42 rfl ?_
  refine go_bipush (v := iI 16) dJ6_bitCount_0f7a4_43 (by decide) ?_
  refine go_iushr dJ6_bitCount_0f7a4_45 ?_
  refine go_iadd dJ6_bitCount_0f7a4_46 ?_
  refine go_istore_n dJ6_bitCount_0f7a4_47 (Nat.le_of_ble_eq_true rfl) rfl ?_
  refine go_iload_n dJ6_bitCount_0f7a4_48 rfl ?_
  refine go_bipush (v := iI 63) dJ6_bitCount_0f7a4_49 (by decide) ?_
  refine go_iand dJ6_bitCount_0f7a4_51 ?_
  refine go_iret rfl rfl dJ6_bitCount_0f7a4_52 ?_
  exact h9 _ (bc9 m hm)

def ntz (g : Nat) : Nat := if g % 2 = 1 then 0 else if g / 2 % 2 = 1 then 1 else if g / 4 % 2 = 1 then 2 else if g / 8 % 2 = 1 then 3 else if g / 16 % 2 = 1 then 4 else if g / 32 % 2 = 1 then 5 else 6
theorem ntz_a : ∀ g, g < 128 → 0 < g → (iI (g : Nat) ^^^ iI (-1)) &&& (iI (g : Nat) - iI 1) = iI ((2 ^ ntz g - 1 : Nat) : Int) := by decide +kernel
theorem ntz_6 (g : Nat) : ntz g = 0 ∨ ntz g = 1 ∨ ntz g = 2 ∨ ntz g = 3 ∨ ntz g = 4 ∨ ntz g = 5 ∨ ntz g = 6 := by
  have h : ntz g ≤ 6 := by
    unfold ntz
    repeat' split
    all_goals omega
  omega
theorem ct_J6_numberOfTrailingZeros_0f7a4 {l : Launch} {D : va_G} {cA ad : Nat → Nat} {d : Nat} {σ : AS} {K : Option Value → AS → Prop} {g : Nat} (hg : g < 128) (h0 : 0 < g) (hK : K (some (.int (iI (ntz g : Nat)))) σ) : Call l D cA ad d mJ6_numberOfTrailingZeros_0f7a4 [.int (iI g)] σ K := by
  have h9 : ∀ x : Int32, x = iI ((ntz g : Nat) : Int) → K (some (.int x)) σ := fun x hx => by rw [hx]; exact hK
  refine call_go (by decide) (Nat.le_of_ble_eq_true rfl) (show Go l D cA ad d mJ6_numberOfTrailingZeros_0f7a4 0 [.int (iI g), .null] [] σ K from ?_)
  refine go_iload_n dJ6_numberOfTrailingZeros_0f7a4_0 rfl ?_
  refine go_iconst (v := iI (-1)) dJ6_numberOfTrailingZeros_0f7a4_1 (by decide) ?_
  refine go_ixor dJ6_numberOfTrailingZeros_0f7a4_2 ?_
  refine go_iload_n dJ6_numberOfTrailingZeros_0f7a4_3 rfl ?_
  refine go_iconst (v := iI 1) dJ6_numberOfTrailingZeros_0f7a4_4 (by decide) ?_
  refine go_isub dJ6_numberOfTrailingZeros_0f7a4_5 ?_
  refine go_iand dJ6_numberOfTrailingZeros_0f7a4_6 ?_
  rw [ntz_a g hg h0]
  refine go_istore_n dJ6_numberOfTrailingZeros_0f7a4_7 (Nat.le_of_ble_eq_true rfl) rfl ?_
  simp only [List.set]
  rcases ntz_6 g with e | e | e | e | e | e | e
  all_goals rw [e]
  all_goals rw [e] at h9
  · refine go_iload_n dJ6_numberOfTrailingZeros_0f7a4_8 rfl ?_
    refine go_if_gt (tgt := 17) dJ6_numberOfTrailingZeros_0f7a4_9 (by decide) (fun h => absurd h (by decide)) (fun _ => ?_)
    refine go_iload_n dJ6_numberOfTrailingZeros_0f7a4_12 rfl ?_
    refine go_bipush (v := iI 32) dJ6_numberOfTrailingZeros_0f7a4_13 (by decide) ?_
    refine go_iand dJ6_numberOfTrailingZeros_0f7a4_15 ?_
    refine go_iret rfl rfl dJ6_numberOfTrailingZeros_0f7a4_16 ?_
    exact h9 _ (by decide)
  · refine go_iload_n dJ6_numberOfTrailingZeros_0f7a4_8 rfl ?_
    refine go_if_gt (tgt := 17) dJ6_numberOfTrailingZeros_0f7a4_9 (by decide) (fun _ => ?_) (fun h => absurd (by decide) h)
    refine go_iconst (v := iI 1) dJ6_numberOfTrailingZeros_0f7a4_17 (by decide) ?_
    refine go_istore_n dJ6_numberOfTrailingZeros_0f7a4_18 (Nat.le_of_ble_eq_true rfl) rfl ?_
    refine go_iload_n dJ6_numberOfTrailingZeros_0f7a4_19 rfl ?_
    refine go_ldcw lJ6_264 dJ6_numberOfTrailingZeros_0f7a4_20 ?_
    refine go_icmp_le (tgt := 34) dJ6_numberOfTrailingZeros_0f7a4_23 (by decide) (fun _ => ?_) (fun h => absurd (by decide) h)
    refine go_iload_n dJ6_numberOfTrailingZeros_0f7a4_34 rfl ?_
    refine go_sipush (v := iI 256) dJ6_numberOfTrailingZeros_0f7a4_35 (by decide) ?_
    refine go_icmp_le (tgt := 49) dJ6_numberOfTrailingZeros_0f7a4_38 (by decide) (fun _ => ?_) (fun h => absurd (by decide) h)
    refine go_iload_n dJ6_numberOfTrailingZeros_0f7a4_49 rfl ?_
    refine go_bipush (v := iI 16) dJ6_numberOfTrailingZeros_0f7a4_50 (by decide) ?_
    refine go_icmp_le (tgt := 62) dJ6_numberOfTrailingZeros_0f7a4_52 (by decide) (fun _ => ?_) (fun h => absurd (by decide) h)
    refine go_iload_n dJ6_numberOfTrailingZeros_0f7a4_62 rfl ?_
    refine go_iconst (v := iI 4) dJ6_numberOfTrailingZeros_0f7a4_63 (by decide) ?_
    refine go_icmp_le (tgt := 74) dJ6_numberOfTrailingZeros_0f7a4_64 (by decide) (fun _ => ?_) (fun h => absurd (by decide) h)
    refine go_iload_n dJ6_numberOfTrailingZeros_0f7a4_74 rfl ?_
    refine go_iload_n dJ6_numberOfTrailingZeros_0f7a4_75 rfl ?_
    refine go_iconst (v := iI 1) dJ6_numberOfTrailingZeros_0f7a4_76 (by decide) ?_
    refine go_iushr dJ6_numberOfTrailingZeros_0f7a4_77 ?_
    refine go_iadd dJ6_numberOfTrailingZeros_0f7a4_78 ?_
    refine go_iret rfl rfl dJ6_numberOfTrailingZeros_0f7a4_79 ?_
    exact h9 _ (by decide)
  · refine go_iload_n dJ6_numberOfTrailingZeros_0f7a4_8 rfl ?_
    refine go_if_gt (tgt := 17) dJ6_numberOfTrailingZeros_0f7a4_9 (by decide) (fun _ => ?_) (fun h => absurd (by decide) h)
    refine go_iconst (v := iI 1) dJ6_numberOfTrailingZeros_0f7a4_17 (by decide) ?_
    refine go_istore_n dJ6_numberOfTrailingZeros_0f7a4_18 (Nat.le_of_ble_eq_true rfl) rfl ?_
    refine go_iload_n dJ6_numberOfTrailingZeros_0f7a4_19 rfl ?_
    refine go_ldcw lJ6_264 dJ6_numberOfTrailingZeros_0f7a4_20 ?_
    refine go_icmp_le (tgt := 34) dJ6_numberOfTrailingZeros_0f7a4_23 (by decide) (fun _ => ?_) (fun h => absurd (by decide) h)
    refine go_iload_n dJ6_numberOfTrailingZeros_0f7a4_34 rfl ?_
    refine go_sipush (v := iI 256) dJ6_numberOfTrailingZeros_0f7a4_35 (by decide) ?_
    refine go_icmp_le (tgt := 49) dJ6_numberOfTrailingZeros_0f7a4_38 (by decide) (fun _ => ?_) (fun h => absurd (by decide) h)
    refine go_iload_n dJ6_numberOfTrailingZeros_0f7a4_49 rfl ?_
    refine go_bipush (v := iI 16) dJ6_numberOfTrailingZeros_0f7a4_50 (by decide) ?_
    refine go_icmp_le (tgt := 62) dJ6_numberOfTrailingZeros_0f7a4_52 (by decide) (fun _ => ?_) (fun h => absurd (by decide) h)
    refine go_iload_n dJ6_numberOfTrailingZeros_0f7a4_62 rfl ?_
    refine go_iconst (v := iI 4) dJ6_numberOfTrailingZeros_0f7a4_63 (by decide) ?_
    refine go_icmp_le (tgt := 74) dJ6_numberOfTrailingZeros_0f7a4_64 (by decide) (fun _ => ?_) (fun h => absurd (by decide) h)
    refine go_iload_n dJ6_numberOfTrailingZeros_0f7a4_74 rfl ?_
    refine go_iload_n dJ6_numberOfTrailingZeros_0f7a4_75 rfl ?_
    refine go_iconst (v := iI 1) dJ6_numberOfTrailingZeros_0f7a4_76 (by decide) ?_
    refine go_iushr dJ6_numberOfTrailingZeros_0f7a4_77 ?_
    refine go_iadd dJ6_numberOfTrailingZeros_0f7a4_78 ?_
    refine go_iret rfl rfl dJ6_numberOfTrailingZeros_0f7a4_79 ?_
    exact h9 _ (by decide)
  · refine go_iload_n dJ6_numberOfTrailingZeros_0f7a4_8 rfl ?_
    refine go_if_gt (tgt := 17) dJ6_numberOfTrailingZeros_0f7a4_9 (by decide) (fun _ => ?_) (fun h => absurd (by decide) h)
    refine go_iconst (v := iI 1) dJ6_numberOfTrailingZeros_0f7a4_17 (by decide) ?_
    refine go_istore_n dJ6_numberOfTrailingZeros_0f7a4_18 (Nat.le_of_ble_eq_true rfl) rfl ?_
    refine go_iload_n dJ6_numberOfTrailingZeros_0f7a4_19 rfl ?_
    refine go_ldcw lJ6_264 dJ6_numberOfTrailingZeros_0f7a4_20 ?_
    refine go_icmp_le (tgt := 34) dJ6_numberOfTrailingZeros_0f7a4_23 (by decide) (fun _ => ?_) (fun h => absurd (by decide) h)
    refine go_iload_n dJ6_numberOfTrailingZeros_0f7a4_34 rfl ?_
    refine go_sipush (v := iI 256) dJ6_numberOfTrailingZeros_0f7a4_35 (by decide) ?_
    refine go_icmp_le (tgt := 49) dJ6_numberOfTrailingZeros_0f7a4_38 (by decide) (fun _ => ?_) (fun h => absurd (by decide) h)
    refine go_iload_n dJ6_numberOfTrailingZeros_0f7a4_49 rfl ?_
    refine go_bipush (v := iI 16) dJ6_numberOfTrailingZeros_0f7a4_50 (by decide) ?_
    refine go_icmp_le (tgt := 62) dJ6_numberOfTrailingZeros_0f7a4_52 (by decide) (fun _ => ?_) (fun h => absurd (by decide) h)
    refine go_iload_n dJ6_numberOfTrailingZeros_0f7a4_62 rfl ?_
    refine go_iconst (v := iI 4) dJ6_numberOfTrailingZeros_0f7a4_63 (by decide) ?_
    refine go_icmp_le (tgt := 74) dJ6_numberOfTrailingZeros_0f7a4_64 (by decide) (fun h => absurd h (by decide)) (fun _ => ?_)
    refine go_iincI dJ6_numberOfTrailingZeros_0f7a4_67 rfl (Nat.le_of_ble_eq_true rfl) rfl ?_
    refine go_iload_n dJ6_numberOfTrailingZeros_0f7a4_70 rfl ?_
    refine go_iconst (v := iI 2) dJ6_numberOfTrailingZeros_0f7a4_71 (by decide) ?_
    refine go_iushr dJ6_numberOfTrailingZeros_0f7a4_72 ?_
    refine go_istore_n dJ6_numberOfTrailingZeros_0f7a4_73 (Nat.le_of_ble_eq_true rfl) rfl ?_
    refine go_iload_n dJ6_numberOfTrailingZeros_0f7a4_74 rfl ?_
    refine go_iload_n dJ6_numberOfTrailingZeros_0f7a4_75 rfl ?_
    refine go_iconst (v := iI 1) dJ6_numberOfTrailingZeros_0f7a4_76 (by decide) ?_
    refine go_iushr dJ6_numberOfTrailingZeros_0f7a4_77 ?_
    refine go_iadd dJ6_numberOfTrailingZeros_0f7a4_78 ?_
    refine go_iret rfl rfl dJ6_numberOfTrailingZeros_0f7a4_79 ?_
    exact h9 _ (by decide)
  · refine go_iload_n dJ6_numberOfTrailingZeros_0f7a4_8 rfl ?_
    refine go_if_gt (tgt := 17) dJ6_numberOfTrailingZeros_0f7a4_9 (by decide) (fun _ => ?_) (fun h => absurd (by decide) h)
    refine go_iconst (v := iI 1) dJ6_numberOfTrailingZeros_0f7a4_17 (by decide) ?_
    refine go_istore_n dJ6_numberOfTrailingZeros_0f7a4_18 (Nat.le_of_ble_eq_true rfl) rfl ?_
    refine go_iload_n dJ6_numberOfTrailingZeros_0f7a4_19 rfl ?_
    refine go_ldcw lJ6_264 dJ6_numberOfTrailingZeros_0f7a4_20 ?_
    refine go_icmp_le (tgt := 34) dJ6_numberOfTrailingZeros_0f7a4_23 (by decide) (fun _ => ?_) (fun h => absurd (by decide) h)
    refine go_iload_n dJ6_numberOfTrailingZeros_0f7a4_34 rfl ?_
    refine go_sipush (v := iI 256) dJ6_numberOfTrailingZeros_0f7a4_35 (by decide) ?_
    refine go_icmp_le (tgt := 49) dJ6_numberOfTrailingZeros_0f7a4_38 (by decide) (fun _ => ?_) (fun h => absurd (by decide) h)
    refine go_iload_n dJ6_numberOfTrailingZeros_0f7a4_49 rfl ?_
    refine go_bipush (v := iI 16) dJ6_numberOfTrailingZeros_0f7a4_50 (by decide) ?_
    refine go_icmp_le (tgt := 62) dJ6_numberOfTrailingZeros_0f7a4_52 (by decide) (fun _ => ?_) (fun h => absurd (by decide) h)
    refine go_iload_n dJ6_numberOfTrailingZeros_0f7a4_62 rfl ?_
    refine go_iconst (v := iI 4) dJ6_numberOfTrailingZeros_0f7a4_63 (by decide) ?_
    refine go_icmp_le (tgt := 74) dJ6_numberOfTrailingZeros_0f7a4_64 (by decide) (fun h => absurd h (by decide)) (fun _ => ?_)
    refine go_iincI dJ6_numberOfTrailingZeros_0f7a4_67 rfl (Nat.le_of_ble_eq_true rfl) rfl ?_
    refine go_iload_n dJ6_numberOfTrailingZeros_0f7a4_70 rfl ?_
    refine go_iconst (v := iI 2) dJ6_numberOfTrailingZeros_0f7a4_71 (by decide) ?_
    refine go_iushr dJ6_numberOfTrailingZeros_0f7a4_72 ?_
    refine go_istore_n dJ6_numberOfTrailingZeros_0f7a4_73 (Nat.le_of_ble_eq_true rfl) rfl ?_
    refine go_iload_n dJ6_numberOfTrailingZeros_0f7a4_74 rfl ?_
    refine go_iload_n dJ6_numberOfTrailingZeros_0f7a4_75 rfl ?_
    refine go_iconst (v := iI 1) dJ6_numberOfTrailingZeros_0f7a4_76 (by decide) ?_
    refine go_iushr dJ6_numberOfTrailingZeros_0f7a4_77 ?_
    refine go_iadd dJ6_numberOfTrailingZeros_0f7a4_78 ?_
    refine go_iret rfl rfl dJ6_numberOfTrailingZeros_0f7a4_79 ?_
    exact h9 _ (by decide)
  · refine go_iload_n dJ6_numberOfTrailingZeros_0f7a4_8 rfl ?_
    refine go_if_gt (tgt := 17) dJ6_numberOfTrailingZeros_0f7a4_9 (by decide) (fun _ => ?_) (fun h => absurd (by decide) h)
    refine go_iconst (v := iI 1) dJ6_numberOfTrailingZeros_0f7a4_17 (by decide) ?_
    refine go_istore_n dJ6_numberOfTrailingZeros_0f7a4_18 (Nat.le_of_ble_eq_true rfl) rfl ?_
    refine go_iload_n dJ6_numberOfTrailingZeros_0f7a4_19 rfl ?_
    refine go_ldcw lJ6_264 dJ6_numberOfTrailingZeros_0f7a4_20 ?_
    refine go_icmp_le (tgt := 34) dJ6_numberOfTrailingZeros_0f7a4_23 (by decide) (fun _ => ?_) (fun h => absurd (by decide) h)
    refine go_iload_n dJ6_numberOfTrailingZeros_0f7a4_34 rfl ?_
    refine go_sipush (v := iI 256) dJ6_numberOfTrailingZeros_0f7a4_35 (by decide) ?_
    refine go_icmp_le (tgt := 49) dJ6_numberOfTrailingZeros_0f7a4_38 (by decide) (fun _ => ?_) (fun h => absurd (by decide) h)
    refine go_iload_n dJ6_numberOfTrailingZeros_0f7a4_49 rfl ?_
    refine go_bipush (v := iI 16) dJ6_numberOfTrailingZeros_0f7a4_50 (by decide) ?_
    refine go_icmp_le (tgt := 62) dJ6_numberOfTrailingZeros_0f7a4_52 (by decide) (fun h => absurd h (by decide)) (fun _ => ?_)
    refine go_iincI dJ6_numberOfTrailingZeros_0f7a4_55 rfl (Nat.le_of_ble_eq_true rfl) rfl ?_
    refine go_iload_n dJ6_numberOfTrailingZeros_0f7a4_58 rfl ?_
    refine go_iconst (v := iI 4) dJ6_numberOfTrailingZeros_0f7a4_59 (by decide) ?_
    refine go_iushr dJ6_numberOfTrailingZeros_0f7a4_60 ?_
    refine go_istore_n dJ6_numberOfTrailingZeros_0f7a4_61 (Nat.le_of_ble_eq_true rfl) rfl ?_
    refine go_iload_n dJ6_numberOfTrailingZeros_0f7a4_62 rfl ?_
    refine go_iconst (v := iI 4) dJ6_numberOfTrailingZeros_0f7a4_63 (by decide) ?_
    refine go_icmp_le (tgt := 74) dJ6_numberOfTrailingZeros_0f7a4_64 (by decide) (fun _ => ?_) (fun h => absurd (by decide) h)
    refine go_iload_n dJ6_numberOfTrailingZeros_0f7a4_74 rfl ?_
    refine go_iload_n dJ6_numberOfTrailingZeros_0f7a4_75 rfl ?_
    refine go_iconst (v := iI 1) dJ6_numberOfTrailingZeros_0f7a4_76 (by decide) ?_
    refine go_iushr dJ6_numberOfTrailingZeros_0f7a4_77 ?_
    refine go_iadd dJ6_numberOfTrailingZeros_0f7a4_78 ?_
    refine go_iret rfl rfl dJ6_numberOfTrailingZeros_0f7a4_79 ?_
    exact h9 _ (by decide)
  · refine go_iload_n dJ6_numberOfTrailingZeros_0f7a4_8 rfl ?_
    refine go_if_gt (tgt := 17) dJ6_numberOfTrailingZeros_0f7a4_9 (by decide) (fun _ => ?_) (fun h => absurd (by decide) h)
    refine go_iconst (v := iI 1) dJ6_numberOfTrailingZeros_0f7a4_17 (by decide) ?_
    refine go_istore_n dJ6_numberOfTrailingZeros_0f7a4_18 (Nat.le_of_ble_eq_true rfl) rfl ?_
    refine go_iload_n dJ6_numberOfTrailingZeros_0f7a4_19 rfl ?_
    refine go_ldcw lJ6_264 dJ6_numberOfTrailingZeros_0f7a4_20 ?_
    refine go_icmp_le (tgt := 34) dJ6_numberOfTrailingZeros_0f7a4_23 (by decide) (fun _ => ?_) (fun h => absurd (by decide) h)
    refine go_iload_n dJ6_numberOfTrailingZeros_0f7a4_34 rfl ?_
    refine go_sipush (v := iI 256) dJ6_numberOfTrailingZeros_0f7a4_35 (by decide) ?_
    refine go_icmp_le (tgt := 49) dJ6_numberOfTrailingZeros_0f7a4_38 (by decide) (fun _ => ?_) (fun h => absurd (by decide) h)
    refine go_iload_n dJ6_numberOfTrailingZeros_0f7a4_49 rfl ?_
    refine go_bipush (v := iI 16) dJ6_numberOfTrailingZeros_0f7a4_50 (by decide) ?_
    refine go_icmp_le (tgt := 62) dJ6_numberOfTrailingZeros_0f7a4_52 (by decide) (fun h => absurd h (by decide)) (fun _ => ?_)
    refine go_iincI dJ6_numberOfTrailingZeros_0f7a4_55 rfl (Nat.le_of_ble_eq_true rfl) rfl ?_
    refine go_iload_n dJ6_numberOfTrailingZeros_0f7a4_58 rfl ?_
    refine go_iconst (v := iI 4) dJ6_numberOfTrailingZeros_0f7a4_59 (by decide) ?_
    refine go_iushr dJ6_numberOfTrailingZeros_0f7a4_60 ?_
    refine go_istore_n dJ6_numberOfTrailingZeros_0f7a4_61 (Nat.le_of_ble_eq_true rfl) rfl ?_
    refine go_iload_n dJ6_numberOfTrailingZeros_0f7a4_62 rfl ?_
    refine go_iconst (v := iI 4) dJ6_numberOfTrailingZeros_0f7a4_63 (by decide) ?_
    refine go_icmp_le (tgt := 74) dJ6_numberOfTrailingZeros_0f7a4_64 (by decide) (fun _ => ?_) (fun h => absurd (by decide) h)
    refine go_iload_n dJ6_numberOfTrailingZeros_0f7a4_74 rfl ?_
    refine go_iload_n dJ6_numberOfTrailingZeros_0f7a4_75 rfl ?_
    refine go_iconst (v := iI 1) dJ6_numberOfTrailingZeros_0f7a4_76 (by decide) ?_
    refine go_iushr dJ6_numberOfTrailingZeros_0f7a4_77 ?_
    refine go_iadd dJ6_numberOfTrailingZeros_0f7a4_78 ?_
    refine go_iret rfl rfl dJ6_numberOfTrailingZeros_0f7a4_79 ?_
    exact h9 _ (by decide)

theorem gr19 {l : Launch} {D : va_G} {cA ad : Nat → Nat} {d : Nat} {σ : AS} {K : Option Value → AS → Prop} {s : PS} {m g p : Nat} {v4 : Int32} (hR : RO σ) (hT : TwC σ s) (hS : TwK s) (hm : m < 512) (hg : g < 2 ^ nP s) (hK : ∀ v5 v6 : Value, Go l D cA ad d mX9_groupOf 80 [.ref 3, .int (iI p), .int (iI m), .int (iI (rdF s m g : Nat)), .int v4, v5, v6] [] σ K) : ∀ i : Nat, i ≤ nQ s → ∀ v6 : Value, Go l D cA ad d mX9_groupOf 19 [.ref 3, .int (iI p), .int (iI m), .int (iI (pgF s m g i : Nat)), .int v4, .int (iI i), v6] [] σ K := by
  have hP7 := hS.1
  have hQ9 := hS.2.1
  refine up_loop (P := fun i : Nat => ∀ v6 : Value, Go l D cA ad d mX9_groupOf 19 [.ref 3, .int (iI p), .int (iI m), .int (iI (pgF s m g i : Nat)), .int v4, .int (iI i), v6] [] σ K) (fun v6 => ?_) (fun i hi ih v6 => ?_)
  · refine go_iload dX9_groupOf_19 rfl ?_
    refine go_aload_n dX9_groupOf_21 rfl ?_
    refine go_getI fX9_39 dX9_groupOf_22 rfl ?_
    refine go_icmp_ge (tgt := 80) dX9_groupOf_25 (by decide) (fun h25 => ?_) (fun h25 => ?_)
    · exact hK _ _
    · exfalso
      rw [hT.2.1, iI_le (by omega)] at h25
      omega
  · refine go_iload dX9_groupOf_19 rfl ?_
    refine go_aload_n dX9_groupOf_21 rfl ?_
    refine go_getI fX9_39 dX9_groupOf_22 rfl ?_
    refine go_icmp_ge (tgt := 80) dX9_groupOf_25 (by decide) (fun h25 => ?_) (fun h25 => ?_)
    · exfalso
      rw [hT.2.1, iI_le (by omega)] at h25
      omega
    · have hpe := pe_ok hS hi
      have hgl := pgF_lt hS (m := m) hg i (by omega)
      refine go_iconst (v := iI 1) dX9_groupOf_28 (by decide) ?_
      refine go_aload_n dX9_groupOf_29 rfl ?_
      refine go_getR fX9_32 dX9_groupOf_30 rfl (hR _ _ _ rfl) ?_
      refine go_iload dX9_groupOf_33 rfl ?_
      refine go_aald dX9_groupOf_35 rfl (by decide) (vp_iI (by omega)) (by rw [cl_n _ (by omega)]; exact hR _ _ _ (r33 _ (by omega)).2.2.1) ?_
      refine go_iconst (v := iI 0) dX9_groupOf_36 (by decide) ?_
      refine go_iald dX9_groupOf_37 (r33 i (by omega)).2.2.2 (vp_iI (by decide)) ?_
      rw [cl_0, hT.2.2.2.2 i 0 hi (by decide), hpe.1]
      refine go_ishl dX9_groupOf_38 ?_
      rw [b_shl _ (by omega)]
      refine go_iconst (v := iI 1) dX9_groupOf_39 (by decide) ?_
      refine go_aload_n dX9_groupOf_40 rfl ?_
      refine go_getR fX9_32 dX9_groupOf_41 rfl (hR _ _ _ rfl) ?_
      refine go_iload dX9_groupOf_44 rfl ?_
      refine go_aald dX9_groupOf_46 rfl (by decide) (vp_iI (by omega)) (by rw [cl_n _ (by omega)]; exact hR _ _ _ (r33 _ (by omega)).2.2.1) ?_
      refine go_iconst (v := iI 1) dX9_groupOf_47 (by decide) ?_
      refine go_iald dX9_groupOf_48 (r33 i (by omega)).2.2.2 (vp_iI (by decide)) ?_
      rw [cl_1, hT.2.2.2.2 i 1 hi (by decide), hpe.2.1]
      refine go_ishl dX9_groupOf_49 ?_
      rw [b_shl _ (by omega)]
      refine go_ior dX9_groupOf_50 ?_
      rw [own_or hS hi]
      refine go_istore dX9_groupOf_51 (Nat.le_of_ble_eq_true rfl) rfl ?_
      refine go_iload_n dX9_groupOf_53 rfl ?_
      refine go_iload dX9_groupOf_54 rfl ?_
      refine go_ishr dX9_groupOf_56 ?_
      refine go_iconst (v := iI 1) dX9_groupOf_57 (by decide) ?_
      refine go_iand dX9_groupOf_58 ?_
      rw [b_get _ hm i (by omega)]
      refine go_if_eq (tgt := 74) dX9_groupOf_59 (by decide) (fun h59 => ?_) (fun h59 => ?_)
      · rw [iI_eq0 (by omega)] at h59
        refine go_iincI dX9_groupOf_74 rfl (Nat.le_of_ble_eq_true rfl) rfl ?_
        refine go_goto (tgt := 19) dX9_groupOf_77 (by decide) ?_
        simp only [List.set, iI_add]
        have e : pgF s m g (i + 1) = pgF s m g i := stG_n (Or.inl (by omega))
        rw [e] at ih
        exact ih _
      · rw [iI_eq0 (by omega)] at h59
        refine go_iload_n dX9_groupOf_62 rfl ?_
        refine go_iload dX9_groupOf_63 rfl ?_
        refine go_iand dX9_groupOf_65 ?_
        rw [b_and2 _ (p128 hS hgl) _ (p128 hS (own_lt hS hi))]
        refine go_if_eq (tgt := 74) dX9_groupOf_66 (by decide) (fun h66 => ?_) (fun h66 => ?_)
        · rw [iI_eq0 (by have := p128 hS (Nat.lt_of_le_of_lt Nat.and_le_left hgl : pgF s m g i &&& ownF s i < 2 ^ nP s); omega)] at h66
          refine go_iincI dX9_groupOf_74 rfl (Nat.le_of_ble_eq_true rfl) rfl ?_
          refine go_goto (tgt := 19) dX9_groupOf_77 (by decide) ?_
          simp only [List.set, iI_add]
          have e : pgF s m g (i + 1) = pgF s m g i := stG_n (Or.inr (by omega))
          rw [e] at ih
          exact ih _
        · rw [iI_eq0 (by have := p128 hS (Nat.lt_of_le_of_lt Nat.and_le_left hgl : pgF s m g i &&& ownF s i < 2 ^ nP s); omega)] at h66
          refine go_iload_n dX9_groupOf_69 rfl ?_
          refine go_iload dX9_groupOf_70 rfl ?_
          refine go_ior dX9_groupOf_72 ?_
          rw [b_or2 _ (p128 hS hgl) _ (p128 hS (own_lt hS hi))]
          refine go_istore_n dX9_groupOf_73 (Nat.le_of_ble_eq_true rfl) rfl ?_
          refine go_iincI dX9_groupOf_74 rfl (Nat.le_of_ble_eq_true rfl) rfl ?_
          refine go_goto (tgt := 19) dX9_groupOf_77 (by decide) ?_
          simp only [List.set, iI_add]
          have e : pgF s m g (i + 1) = pgF s m g i ||| ownF s i := stG_y (by omega) (by omega)
          rw [e] at ih
          exact ih _

theorem gr7 {l : Launch} {D : va_G} {cA ad : Nat → Nat} {d : Nat} {σ : AS} {K : Option Value → AS → Prop} {s : PS} {m p : Nat} (hR : RO σ) (hT : TwC σ s) (hS : TwK s) (hm : m < 512) (hp : p < nP s) (hK : K (some (.int (iI (grpF s m p : Nat)))) σ) : ∀ i : Nat, i ≤ nP s - 1 → ∀ v5 v6 : Value, Go l D cA ad d mX9_groupOf 7 [.ref 3, .int (iI p), .int (iI m), .int (iI (grF s m p i : Nat)), .int (iI ((i : Int) + 1)), v5, v6] [] σ K := by
  have hP7 := hS.1
  refine up_loop (P := fun i : Nat => ∀ v5 v6 : Value, Go l D cA ad d mX9_groupOf 7 [.ref 3, .int (iI p), .int (iI m), .int (iI (grF s m p i : Nat)), .int (iI ((i : Int) + 1)), v5, v6] [] σ K) (fun v5 v6 => ?_) (fun i hi ih v5 v6 => ?_)
  · refine go_iload dX9_groupOf_7 rfl ?_
    refine go_aload_n dX9_groupOf_9 rfl ?_
    refine go_getI fX9_35 dX9_groupOf_10 rfl ?_
    refine go_icmp_ge (tgt := 86) dX9_groupOf_13 (by decide) (fun h13 => ?_) (fun h13 => ?_)
    · refine go_iload_n dX9_groupOf_86 rfl ?_
      refine go_iret rfl rfl dX9_groupOf_87 ?_
      rw [grF_fix hS hp]
      exact hK
    · exfalso
      rw [hT.1, iI_le (by omega)] at h13
      omega
  · refine go_iload dX9_groupOf_7 rfl ?_
    refine go_aload_n dX9_groupOf_9 rfl ?_
    refine go_getI fX9_35 dX9_groupOf_10 rfl ?_
    refine go_icmp_ge (tgt := 86) dX9_groupOf_13 (by decide) (fun h13 => ?_) (fun h13 => ?_)
    · exfalso
      rw [hT.1, iI_le (by omega)] at h13
      omega
    · refine go_iconst (v := iI 0) dX9_groupOf_16 (by decide) ?_
      refine go_istore dX9_groupOf_17 (Nat.le_of_ble_eq_true rfl) rfl ?_
      simp only [List.set]
      refine gr19 hR hT hS hm (grF_lt hS hp i) (fun v5 v6 => ?_) 0 (by omega) _
      refine go_iincI dX9_groupOf_80 rfl (Nat.le_of_ble_eq_true rfl) rfl ?_
      refine go_goto (tgt := 7) dX9_groupOf_83 (by decide) ?_
      simp only [List.set, iI_add]
      exact ih _ _

theorem ct_X9_groupOf {l : Launch} {D : va_G} {cA ad : Nat → Nat} {d : Nat} {σ : AS} {K : Option Value → AS → Prop} {s : PS} {m p : Nat} (hR : RO σ) (hT : TwC σ s) (hS : TwK s) (hm : m < 512) (hp : p < nP s) (hK : K (some (.int (iI (grpF s m p : Nat)))) σ) : Call l D cA ad d mX9_groupOf [.ref 3, .int (iI p), .int (iI m)] σ K := by
  refine call_go (by decide) (Nat.le_of_ble_eq_true rfl) (show Go l D cA ad d mX9_groupOf 0 [.ref 3, .int (iI p), .int (iI m), .null, .null, .null, .null] [] σ K from ?_)
  refine go_iconst (v := iI 1) dX9_groupOf_0 (by decide) ?_
  refine go_iload_n dX9_groupOf_1 rfl ?_
  refine go_ishl dX9_groupOf_2 ?_
  rw [b_shl _ (by have := hS.1; omega)]
  refine go_istore_n dX9_groupOf_3 (Nat.le_of_ble_eq_true rfl) rfl ?_
  refine go_iconst (v := iI 1) dX9_groupOf_4 (by decide) ?_
  refine go_istore dX9_groupOf_5 (Nat.le_of_ble_eq_true rfl) rfl ?_
  exact gr7 hR hT hS hm hp hK 0 (by omega) _ _

theorem mj19 {l : Launch} {D : va_G} {cA ad : Nat → Nat} {d : Nat} {σ : AS} {K : Option Value → AS → Prop} {s : PS} {m g p : Nat} {v4 : Int32} (hR : RO σ) (hT : TwM σ s) (hS : TwK s) (hm : m < 512) (hg : g < 2 ^ nP s) (hK : ∀ v5 v6 : Value, Go l D cA ad (d + 1) mX12_joinedBy 82 [.ref 111, .int (iI p), .int (iI m), .int (iI (rdF s m g : Nat)), .int v4, v5, v6] [] σ K) : ∀ i : Nat, i ≤ nQ s → ∀ v6 : Value, Go l D cA ad (d + 1) mX12_joinedBy 19 [.ref 111, .int (iI p), .int (iI m), .int (iI (pgF s m g i : Nat)), .int v4, .int (iI i), v6] [] σ K := by
  have hP7 := hS.1
  have hQ9 := hS.2.1
  refine up_loop (P := fun i : Nat => ∀ v6 : Value, Go l D cA ad (d + 1) mX12_joinedBy 19 [.ref 111, .int (iI p), .int (iI m), .int (iI (pgF s m g i : Nat)), .int v4, .int (iI i), v6] [] σ K) (fun v6 => ?_) (fun i hi ih v6 => ?_)
  · refine go_iload dX12_joinedBy_19 rfl ?_
    refine go_aload_n dX12_joinedBy_21 rfl ?_
    refine go_getI fX12_297 dX12_joinedBy_22 rfl ?_
    refine go_icmp_ge (tgt := 82) dX12_joinedBy_25 (by decide) (fun h25 => ?_) (fun h25 => ?_)
    · exact hK _ _
    · exfalso
      rw [hT.2.1, iI_le (by omega)] at h25
      omega
  · refine go_iload dX12_joinedBy_19 rfl ?_
    refine go_aload_n dX12_joinedBy_21 rfl ?_
    refine go_getI fX12_297 dX12_joinedBy_22 rfl ?_
    refine go_icmp_ge (tgt := 82) dX12_joinedBy_25 (by decide) (fun h25 => ?_) (fun h25 => ?_)
    · exfalso
      rw [hT.2.1, iI_le (by omega)] at h25
      omega
    · have hpe := pe_ok hS hi
      have hgl := pgF_lt hS (m := m) hg i (by omega)
      refine go_iconst (v := iI 1) dX12_joinedBy_28 (by decide) ?_
      refine go_aload_n dX12_joinedBy_29 rfl ?_
      refine go_getR fX12_49 dX12_joinedBy_30 rfl (hR _ _ _ rfl) ?_
      refine go_iconst (v := iI 5) dX12_joinedBy_33 (by decide) ?_
      refine go_iload dX12_joinedBy_34 rfl ?_
      refine go_imul dX12_joinedBy_36 ?_
      rw [iI_mul]
      refine go_iald dX12_joinedBy_37 rfl (vp_iI (by omega)) ?_
      rw [iI_cl (by omega), show (5 * (i : Int)).toNat = 5 * i + 0 by omega, hT.2.2.2.2 i 0 hi (by decide), hpe.1]
      refine go_ishl dX12_joinedBy_38 ?_
      rw [b_shl _ (by omega)]
      refine go_iconst (v := iI 1) dX12_joinedBy_39 (by decide) ?_
      refine go_aload_n dX12_joinedBy_40 rfl ?_
      refine go_getR fX12_49 dX12_joinedBy_41 rfl (hR _ _ _ rfl) ?_
      refine go_iconst (v := iI 5) dX12_joinedBy_44 (by decide) ?_
      refine go_iload dX12_joinedBy_45 rfl ?_
      refine go_imul dX12_joinedBy_47 ?_
      refine go_iconst (v := iI 1) dX12_joinedBy_48 (by decide) ?_
      refine go_iadd dX12_joinedBy_49 ?_
      rw [iI_mul, iI_add]
      refine go_iald dX12_joinedBy_50 rfl (vp_iI (by omega)) ?_
      rw [iI_cl (by omega), show (5 * (i : Int) + 1).toNat = 5 * i + 1 by omega, hT.2.2.2.2 i 1 hi (by decide), hpe.2.1]
      refine go_ishl dX12_joinedBy_51 ?_
      rw [b_shl _ (by omega)]
      refine go_ior dX12_joinedBy_52 ?_
      rw [own_or hS hi]
      refine go_istore dX12_joinedBy_53 (Nat.le_of_ble_eq_true rfl) rfl ?_
      refine go_iload_n dX12_joinedBy_55 rfl ?_
      refine go_iload dX12_joinedBy_56 rfl ?_
      refine go_callS (as := [_, _]) wX12_229 dX12_joinedBy_58 rfl rfl (Nat.le_of_ble_eq_true rfl) (ct_X12_has hm (by omega) ?_)
      refine go_if_eq (tgt := 76) dX12_joinedBy_61 (by decide) (fun h61 => ?_) (fun h61 => ?_)
      · rw [iI_eq0 (by omega)] at h61
        refine go_iincI dX12_joinedBy_76 rfl (Nat.le_of_ble_eq_true rfl) rfl ?_
        refine go_goto (tgt := 19) dX12_joinedBy_79 (by decide) ?_
        simp only [List.set, iI_add]
        have e : pgF s m g (i + 1) = pgF s m g i := stG_n (Or.inl (by omega))
        rw [e] at ih
        exact ih _
      · rw [iI_eq0 (by omega)] at h61
        refine go_iload_n dX12_joinedBy_64 rfl ?_
        refine go_iload dX12_joinedBy_65 rfl ?_
        refine go_iand dX12_joinedBy_67 ?_
        rw [b_and2 _ (p128 hS hgl) _ (p128 hS (own_lt hS hi))]
        refine go_if_eq (tgt := 76) dX12_joinedBy_68 (by decide) (fun h68 => ?_) (fun h68 => ?_)
        · rw [iI_eq0 (by have := p128 hS (Nat.lt_of_le_of_lt Nat.and_le_left hgl : pgF s m g i &&& ownF s i < 2 ^ nP s); omega)] at h68
          refine go_iincI dX12_joinedBy_76 rfl (Nat.le_of_ble_eq_true rfl) rfl ?_
          refine go_goto (tgt := 19) dX12_joinedBy_79 (by decide) ?_
          simp only [List.set, iI_add]
          have e : pgF s m g (i + 1) = pgF s m g i := stG_n (Or.inr (by omega))
          rw [e] at ih
          exact ih _
        · rw [iI_eq0 (by have := p128 hS (Nat.lt_of_le_of_lt Nat.and_le_left hgl : pgF s m g i &&& ownF s i < 2 ^ nP s); omega)] at h68
          refine go_iload_n dX12_joinedBy_71 rfl ?_
          refine go_iload dX12_joinedBy_72 rfl ?_
          refine go_ior dX12_joinedBy_74 ?_
          rw [b_or2 _ (p128 hS hgl) _ (p128 hS (own_lt hS hi))]
          refine go_istore_n dX12_joinedBy_75 (Nat.le_of_ble_eq_true rfl) rfl ?_
          refine go_iincI dX12_joinedBy_76 rfl (Nat.le_of_ble_eq_true rfl) rfl ?_
          refine go_goto (tgt := 19) dX12_joinedBy_79 (by decide) ?_
          simp only [List.set, iI_add]
          have e : pgF s m g (i + 1) = pgF s m g i ||| ownF s i := stG_y (by omega) (by omega)
          rw [e] at ih
          exact ih _

theorem mj7 {l : Launch} {D : va_G} {cA ad : Nat → Nat} {d : Nat} {σ : AS} {K : Option Value → AS → Prop} {s : PS} {m p : Nat} (hR : RO σ) (hT : TwM σ s) (hS : TwK s) (hm : m < 512) (hp : p < nP s) (hK : K (some (.int (iI (grpF s m p : Nat)))) σ) : ∀ i : Nat, i ≤ nP s → ∀ v5 v6 : Value, Go l D cA ad (d + 1) mX12_joinedBy 7 [.ref 111, .int (iI p), .int (iI m), .int (iI (grF s m p i : Nat)), .int (iI i), v5, v6] [] σ K := by
  have hP7 := hS.1
  refine up_loop (P := fun i : Nat => ∀ v5 v6 : Value, Go l D cA ad (d + 1) mX12_joinedBy 7 [.ref 111, .int (iI p), .int (iI m), .int (iI (grF s m p i : Nat)), .int (iI i), v5, v6] [] σ K) (fun v5 v6 => ?_) (fun i hi ih v5 v6 => ?_)
  · refine go_iload dX12_joinedBy_7 rfl ?_
    refine go_aload_n dX12_joinedBy_9 rfl ?_
    refine go_getI fX12_294 dX12_joinedBy_10 rfl ?_
    refine go_icmp_ge (tgt := 88) dX12_joinedBy_13 (by decide) (fun h13 => ?_) (fun h13 => ?_)
    · refine go_iload_n dX12_joinedBy_88 rfl ?_
      refine go_iret rfl rfl dX12_joinedBy_89 ?_
      exact hK
    · exfalso
      rw [hT.1, iI_le (by omega)] at h13
      omega
  · refine go_iload dX12_joinedBy_7 rfl ?_
    refine go_aload_n dX12_joinedBy_9 rfl ?_
    refine go_getI fX12_294 dX12_joinedBy_10 rfl ?_
    refine go_icmp_ge (tgt := 88) dX12_joinedBy_13 (by decide) (fun h13 => ?_) (fun h13 => ?_)
    · exfalso
      rw [hT.1, iI_le (by omega)] at h13
      omega
    · refine go_iconst (v := iI 0) dX12_joinedBy_16 (by decide) ?_
      refine go_istore dX12_joinedBy_17 (Nat.le_of_ble_eq_true rfl) rfl ?_
      simp only [List.set]
      refine mj19 hR hT hS hm (grF_lt hS hp i) (fun v5 v6 => ?_) 0 (by omega) _
      refine go_iincI dX12_joinedBy_82 rfl (Nat.le_of_ble_eq_true rfl) rfl ?_
      refine go_goto (tgt := 7) dX12_joinedBy_85 (by decide) ?_
      simp only [List.set, iI_add]
      exact ih _ _

theorem ct_X12_joinedBy {l : Launch} {D : va_G} {cA ad : Nat → Nat} {d : Nat} {σ : AS} {K : Option Value → AS → Prop} {s : PS} {m p : Nat} (hR : RO σ) (hT : TwM σ s) (hS : TwK s) (hm : m < 512) (hp : p < nP s) (hK : K (some (.int (iI (grpF s m p : Nat)))) σ) : Call l D cA ad (d + 1) mX12_joinedBy [.ref 111, .int (iI p), .int (iI m)] σ K := by
  refine call_go (by decide) (Nat.le_of_ble_eq_true rfl) (show Go l D cA ad (d + 1) mX12_joinedBy 0 [.ref 111, .int (iI p), .int (iI m), .null, .null, .null, .null] [] σ K from ?_)
  refine go_iconst (v := iI 1) dX12_joinedBy_0 (by decide) ?_
  refine go_iload_n dX12_joinedBy_1 rfl ?_
  refine go_ishl dX12_joinedBy_2 ?_
  rw [b_shl _ (by have := hS.1; omega)]
  refine go_istore_n dX12_joinedBy_3 (Nat.le_of_ble_eq_true rfl) rfl ?_
  refine go_iconst (v := iI 0) dX12_joinedBy_4 (by decide) ?_
  refine go_istore dX12_joinedBy_5 (Nat.le_of_ble_eq_true rfl) rfl ?_
  exact mj7 hR hT hS hm hp hK 0 (by omega) _ _

def joinA (X : XS) (p : Int) : Int := if 0 ≤ p ∧ p < nP (xs X) then (grpF (xs X) (opn (xw X)) p.toNat : Int) else -1
theorem ct_X11_joined {l : Launch} {D : va_G} {cA ad : Nat → Nat} {d : Nat} {σ : AS} {K : Option Value → AS → Prop} {X : XS} {p : Int} (hR : RO σ) (hK0 : XK X) (hC : CI σ X) (hp32 : -2147483648 ≤ p ∧ p < 2147483648) (hK : ∀ τ, QF σ τ → K (some (.int (iI (joinA X p)))) τ) : Call l D cA ad (d + 1) mX11_joined [.ref 0, .int (iI p)] σ K := by
  refine call_go (by decide) (Nat.le_of_ble_eq_true rfl) (show Go l D cA ad (d + 1) mX11_joined 0 [.ref 0, .int (iI p)] [] σ K from ?_)
  refine go_aload_n dX11_joined_0 rfl ?_
  refine go_getR fX11_19 dX11_joined_1 rfl (hR _ _ _ rfl) ?_
  refine go_iload_n dX11_joined_4 rfl ?_
  refine go_callV (as := [_]) wX11_142 dX11_joined_5 rfl rfl rfl rfl (Nat.le_of_ble_eq_true rfl) (ct_hasPond2 hp32 hC.2.1 hK0.s (fun k hke hkl => ?_) (fun hkx => ?_))
  · refine go_if_eq (tgt := 29) dX11_joined_8 (by decide) (fun h8 => ?_) (fun h8 => ?_)
    · exact absurd h8 (by decide)
    · subst hke
      refine go_aload_n dX11_joined_11 rfl ?_
      refine go_getR fX11_19 dX11_joined_12 rfl (hR _ _ _ rfl) ?_
      refine go_iload_n dX11_joined_15 rfl ?_
      refine go_aload_n dX11_joined_16 rfl ?_
      refine go_getR fX11_58 dX11_joined_17 rfl (hR _ _ _ rfl) ?_
      refine go_getI fX11_250 dX11_joined_20 rfl ?_
      rw [hC.2.2.1.2.1]
      refine go_callV (as := [_, _]) wX11_283 dX11_joined_23 rfl rfl rfl rfl (Nat.le_of_ble_eq_true rfl) (ct_X9_groupOf hR hC.2.1 hK0.s (pw512 hK0.s hK0.w) hkl ?_)
      refine go_goto (tgt := 30) dX11_joined_26 (by decide) ?_
      refine go_iret rfl rfl dX11_joined_30 ?_
      have e : joinA X k = (grpF (xs X) (opn (xw X)) k : Int) := by unfold joinA; rw [if_pos (by omega), Int.toNat_natCast]
      have h9 := hK σ QF.rf
      rw [e] at h9
      exact h9
  · refine go_if_eq (tgt := 29) dX11_joined_8 (by decide) (fun h8 => ?_) (fun h8 => ?_)
    · refine go_iconst (v := iI (-1)) dX11_joined_29 (by decide) ?_
      refine go_iret rfl rfl dX11_joined_30 ?_
      have e : joinA X p = -1 := by unfold joinA; rw [if_neg (by omega)]
      have h9 := hK σ QF.rf
      rw [e] at h9
      exact h9
    · exact absurd h8 (by decide)

theorem ct_X12_joined {l : Launch} {D : va_G} {cA ad : Nat → Nat} {d : Nat} {σ : AS} {K : Option Value → AS → Prop} {X : XS} {p : Int} (hR : RO σ) (hK0 : XK X) (hC : MI σ X) (hp32 : -2147483648 ≤ p ∧ p < 2147483648) (hK : ∀ τ, DF (xL X) σ τ → K (some (.int (iI (joinA X p)))) τ) : Call l D cA ad (d + 2) mX12_joined [.ref 111, .int (iI p)] σ K := by
  have hP7 := hK0.s.1
  have hQ9 := hK0.s.2.1
  refine call_go (by decide) (Nat.le_of_ble_eq_true rfl) (show Go l D cA ad (d + 2) mX12_joined 0 [.ref 111, .int (iI p)] [] σ K from ?_)
  refine go_aload_n dX12_joined_0 rfl ?_
  refine go_iconst (v := iI 0) dX12_joined_1 (by decide) ?_
  refine go_putI fX12_96 rfl dX12_joined_2 rfl rfl rfl ?_
  have hq : DF (xL X) σ (sI σ 111 (upd (σ.1 111) 0 (iI 0))) := DF_f0 DF.rf
  have hR0 := hq.RO hR
  have hC0 := hC.q hK0 hq
  generalize sI σ 111 (upd (σ.1 111) 0 (iI 0)) = τ at hq hR0 hC0 ⊢
  refine go_aload_n dX12_joined_5 rfl ?_
  refine go_iload_n dX12_joined_6 rfl ?_
  refine go_callV (as := [_]) wX12_364 dX12_joined_7 rfl rfl rfl rfl (Nat.le_of_ble_eq_true rfl) (ct_isPond2 hp32 hC0.2.1 hK0.s (fun k hke hkl => ?_) (fun hkx => ?_))
  · refine go_if_eq (tgt := 28) dX12_joined_10 (by decide) (fun h10 => ?_) (fun h10 => ?_)
    · exact absurd h10 (by decide)
    · subst hke
      refine go_aload_n dX12_joined_13 rfl ?_
      refine go_iload_n dX12_joined_14 rfl ?_
      refine go_aload_n dX12_joined_15 rfl ?_
      refine go_getR fX12_61 dX12_joined_16 rfl (hR0 _ _ _ rfl) ?_
      refine go_bipush (v := iI 21) dX12_joined_19 (by decide) ?_
      refine go_iald dX12_joined_21 rfl (vp_iI (by decide)) ?_
      rw [show (iI 21).toNatClampNeg = 21 by decide, hC0.2.2.1.1.2.1]
      refine go_callV (as := [_, _]) wX12_437 dX12_joined_22 rfl rfl rfl rfl (Nat.le_of_ble_eq_true rfl) (ct_X12_joinedBy hR0 hC0.2.1 hK0.s (pw512 hK0.s hK0.w) hkl ?_)
      refine go_goto (tgt := 29) dX12_joined_25 (by decide) ?_
      refine go_iret rfl rfl dX12_joined_29 ?_
      have e : joinA X k = (grpF (xs X) (opn (xw X)) k : Int) := by unfold joinA; rw [if_pos (by omega), Int.toNat_natCast]
      have h9 := hK τ hq
      rw [e] at h9
      exact h9
  · refine go_if_eq (tgt := 28) dX12_joined_10 (by decide) (fun h10 => ?_) (fun h10 => ?_)
    · refine go_iconst (v := iI (-1)) dX12_joined_28 (by decide) ?_
      refine go_iret rfl rfl dX12_joined_29 ?_
      have e : joinA X p = -1 := by unfold joinA; rw [if_neg (by omega)]
      have h9 := hK τ hq
      rw [e] at h9
      exact h9
    · exact absurd h10 (by decide)

