/-! numbers: iI z is the int of z -/
def iI (z : Int) : Int32 := Int32.ofInt z
theorem iI_toInt {z : Int} (h1 : -2147483648 ≤ z) (h2 : z < 2147483648) : (iI z).toInt = z := by
  unfold iI
  rw [Int32.toInt_ofInt, Int.bmod_def]
  simp only [Int32.size]
  split <;> omega
theorem iI_of (x : Int32) : iI x.toInt = x := by unfold iI; exact Int32.ofInt_toInt x
theorem z32 (x : Int32) : -2147483648 ≤ x.toInt ∧ x.toInt < 2147483648 := ⟨by have := Int32.le_toInt x; simpa using this, by have := Int32.toInt_lt x; simpa using this⟩
theorem iI_ex (x : Int32) : ∃ z : Int, -2147483648 ≤ z ∧ z < 2147483648 ∧ x = iI z := ⟨x.toInt, (z32 x).1, (z32 x).2, (iI_of x).symm⟩
theorem iI_add (a b : Int) : iI a + iI b = iI (a + b) := (Int32.ofInt_add a b).symm
theorem iI_sub (a b : Int) : iI a - iI b = iI (a - b) := (Int32.ofInt_sub a b).symm
theorem iI_mul (a b : Int) : iI a * iI b = iI (a * b) := (Int32.ofInt_mul a b).symm
theorem iI_neg (a : Int) : - iI a = iI (-a) := (Int32.ofInt_neg a).symm
theorem iI_lt {a b : Int} (h : (-2147483648 ≤ a ∧ a < 2147483648) ∧ -2147483648 ≤ b ∧ b < 2147483648) : iI a < iI b ↔ a < b := by
  rw [Int32.lt_iff_toInt_lt, iI_toInt h.1.1 h.1.2, iI_toInt h.2.1 h.2.2]
theorem iI_le {a b : Int} (h : (-2147483648 ≤ a ∧ a < 2147483648) ∧ -2147483648 ≤ b ∧ b < 2147483648) : iI a ≤ iI b ↔ a ≤ b := by
  rw [Int32.le_iff_toInt_le, iI_toInt h.1.1 h.1.2, iI_toInt h.2.1 h.2.2]
theorem iI_eq {a b : Int} (h : (-2147483648 ≤ a ∧ a < 2147483648) ∧ -2147483648 ≤ b ∧ b < 2147483648) : iI a = iI b ↔ a = b := by
  rw [← Int32.toInt_inj, iI_toInt h.1.1 h.1.2, iI_toInt h.2.1 h.2.2]
theorem iI_0 : (0 : Int32) = iI 0 := by decide
theorem iI_lt0 {a : Int} (h : -2147483648 ≤ a ∧ a < 2147483648) : iI a < 0 ↔ a < 0 := by rw [iI_0, iI_lt ⟨h, by decide, by decide⟩]
theorem iI_le0 {a : Int} (h : -2147483648 ≤ a ∧ a < 2147483648) : iI a ≤ 0 ↔ a ≤ 0 := by rw [iI_0, iI_le ⟨h, by decide, by decide⟩]
theorem iI_0lt {a : Int} (h : -2147483648 ≤ a ∧ a < 2147483648) : 0 < iI a ↔ 0 < a := by rw [iI_0, iI_lt ⟨⟨by decide, by decide⟩, h⟩]
theorem iI_0le {a : Int} (h : -2147483648 ≤ a ∧ a < 2147483648) : 0 ≤ iI a ↔ 0 ≤ a := by rw [iI_0, iI_le ⟨⟨by decide, by decide⟩, h⟩]
theorem iI_eq0 {a : Int} (h : -2147483648 ≤ a ∧ a < 2147483648) : iI a = 0 ↔ a = 0 := by rw [iI_0, iI_eq ⟨h, by decide, by decide⟩]
theorem iI_cl {z : Int} (h : 0 ≤ z ∧ z < 2147483648) : (iI z).toNatClampNeg = z.toNat := by
  show (iI z).toInt.toNat = _
  rw [iI_toInt (by omega) h.2]
theorem vp_iI {z : Int} {n : Nat} (h : 0 ≤ z ∧ z < n) (hn : n ≤ 100000 := by decide) : vp_in (iI z) n := by
  rw [vp_in_iff, iI_toInt (by omega) (by omega)]
  exact h
theorem vp_iI' {z : Int} {n : Nat} (hn : n ≤ 100000) (hz : -2147483648 ≤ z ∧ z < 2147483648) : vp_in (iI z) n ↔ 0 ≤ z ∧ z < n := by
  rw [vp_in_iff, iI_toInt (by omega) (by omega)]
theorem iI_div {a b : Int} (ha : 0 ≤ a ∧ a < 2147483648) (hb : 0 < b ∧ b < 2147483648) : iI a / iI b = iI (a / b) := by
  apply Int32.toInt_inj.mp
  have h1 : a / b ≤ a := Int.ediv_le_self _ ha.1
  have h0 : 0 ≤ a / b := Int.ediv_nonneg ha.1 (by omega)
  rw [Int32.toInt_div, iI_toInt (by omega) ha.2, iI_toInt (by omega) hb.2, iI_toInt (by omega) (by omega), Int.tdiv_eq_ediv_of_nonneg ha.1]
  rw [Int.bmod_def]
  simp only [show (2 : Nat) ^ 32 = 4294967296 by decide]
  split <;> omega
theorem iI_rem {a b : Int} (ha : 0 ≤ a ∧ a < 2147483648) (hb : 0 < b ∧ b < 2147483648) : iI a - iI a / iI b * iI b = iI (a % b) := by
  rw [iI_div ha hb, iI_mul, iI_sub]
  congr 1
  have := Int.mul_ediv_add_emod a b
  rw [Int.mul_comm (a / b) b]
  omega
theorem iI_ofNat (n : Nat) : Int32.ofNat n = iI n := by unfold iI; rw [Int32.ofInt_eq_ofNat]
theorem nI_iI (n : Nat) : nI n = iI n := iI_ofNat n
theorem iI_min {a b : Int} (h : (-2147483648 ≤ a ∧ a < 2147483648) ∧ -2147483648 ≤ b ∧ b < 2147483648) : (if iI b < iI a then iI b else iI a) = iI (if b < a then b else a) := by
  by_cases hc : b < a
  · rw [if_pos ((iI_lt ⟨h.2, h.1⟩).mpr hc), if_pos hc]
  · rw [if_neg (fun q => hc ((iI_lt ⟨h.2, h.1⟩).mp q)), if_neg hc]
theorem iI_max {a b : Int} (h : (-2147483648 ≤ a ∧ a < 2147483648) ∧ -2147483648 ≤ b ∧ b < 2147483648) : (if iI a < iI b then iI b else iI a) = iI (if a < b then b else a) := by
  by_cases hc : a < b
  · rw [if_pos ((iI_lt ⟨h.1, h.2⟩).mpr hc), if_pos hc]
  · rw [if_neg (fun q => hc ((iI_lt ⟨h.1, h.2⟩).mp q)), if_neg hc]
/-- a loop that counts up -/
theorem up_loop {n : Nat} {P : Nat → Prop} (he : P n) (hs : ∀ i, i < n → P (i + 1) → P i) : ∀ i, i ≤ n → P i := by
  intro i hi
  obtain ⟨k, rfl⟩ : ∃ k, n = i + k := ⟨n - i, by omega⟩
  clear hi
  induction k generalizing i with
  | zero => exact he
  | succ k ih =>
    refine hs i (by omega) (ih (i + 1) (by rw [show i + 1 + k = i + (k + 1) by omega]; exact he) (fun j hj => hs j (by omega)))
/-! stores -/
theorem sI_I (σ : AS) (k : Nat) (f : Nat → Int32) (a : Nat) : (sI σ k f).1 a = if a = k then f else σ.1 a := rfl
theorem sI_same (σ : AS) (k : Nat) (f : Nat → Int32) : (sI σ k f).1 k = f := if_pos rfl
theorem sI_ne (σ : AS) (k a : Nat) (f : Nat → Int32) (h : a ≠ k) : (sI σ k f).1 a = σ.1 a := if_neg h
theorem sI_L (σ : AS) (k : Nat) (f : Nat → Int32) : (sI σ k f).2.1 = σ.2.1 := rfl
theorem sI_R (σ : AS) (k : Nat) (f : Nat → Int32) : (sI σ k f).2.2 = σ.2.2 := rfl
theorem sI_sI (σ : AS) (k : Nat) (f g : Nat → Int32) : sI (sI σ k f) k g = sI σ k g := by
  unfold sI
  congr 1
  funext a
  by_cases h : a = k <;> simp [h]
theorem sI_comm (σ : AS) (k j : Nat) (f g : Nat → Int32) (h : k ≠ j) : sI (sI σ k f) j g = sI (sI σ j g) k f := by
  unfold sI
  congr 1
  funext a
  by_cases h1 : a = k
  · subst h1; simp [h]
  · by_cases h2 : a = j <;> simp [h1, h2, Ne.symm h]
theorem sI_self (σ : AS) (k : Nat) : sI σ k (σ.1 k) = σ := by
  unfold sI
  have : (fun a => if a = k then σ.1 k else σ.1 a) = σ.1 := by funext a; by_cases h : a = k <;> simp [h]
  rw [this]
theorem upd_same (f : Nat → Int32) (k : Nat) (x : Int32) : upd f k x k = x := by simp [upd]
theorem upd_ne (f : Nat → Int32) (k j : Nat) (x : Int32) (h : j ≠ k) : upd f k x j = f j := by simp [upd, h]
theorem upd_upd (f : Nat → Int32) (k : Nat) (x y : Int32) : upd (upd f k x) k y = upd f k y := by funext j; by_cases h : j = k <;> simp [upd, h]
theorem upd_comm (f : Nat → Int32) (k j : Nat) (x y : Int32) (h : k ≠ j) : upd (upd f k x) j y = upd (upd f j y) k x := by
  funext i
  by_cases h1 : i = k
  · subst h1; simp [upd, h]
  · by_cases h2 : i = j <;> simp [upd, h1, h2, Ne.symm h]
theorem upd_self (f : Nat → Int32) (k : Nat) : upd f k (f k) = f := by funext j; by_cases h : j = k <;> simp [upd, h]
