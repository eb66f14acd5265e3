/-! the fresh store, the first state -/
def zs : AS := (fun _ _ => 0, fun _ _ => 0, fun _ _ => none)
def s11 : AS := (sR (sR (sR (sR (sR (sR (sR (sR (sR (sR (sR (sR (sR (sR (sR (sR (sR (sR (sR (sR (sR (sR (sR (sR (sR (sR (sR (sR (sR (sR (sI (sI zs 48 (upd (zs.1 48) 2 (iI (-1)))) 0 (upd ((sI zs 48 (upd (zs.1 48) 2 (iI (-1)))).1 0) 16 (iI 20))) 1 (va_up (fun _ => none) 0 (some 2))) 5 (fun j => if j < 7 then some (5 + 1 + j) else none)) 13 (fun j => if j < 9 then some (13 + 1 + j) else none)) 3 (va_up (va_up (va_up (fun _ => none) 0 (some 4)) 1 (some 5)) 2 (some 13))) 25 (fun j => if j < 7 then some (25 + 1 + j) else none)) 33 (fun j => if j < 9 then some (33 + 1 + j) else none)) 23 (va_up (va_up (va_up (fun _ => none) 0 (some 24)) 1 (some 25)) 2 (some 33))) 44 (va_up (va_up (va_up (fun _ => none) 0 (some 45)) 2 (some 46)) 3 (some 47))) 43 (va_up (va_up (fun _ => none) 0 (some 44)) 1 (some 1))) 48 (va_up (va_up (fun _ => none) 0 (some 49)) 3 (some 3))) 50 (va_up (va_up (va_up (fun _ => none) 0 (some 51)) 2 (some 52)) 3 (some 53))) 54 (va_up (va_up (va_up (fun _ => none) 0 (some 55)) 2 (some 56)) 3 (some 57))) 58 (va_up (va_up (va_up (fun _ => none) 0 (some 59)) 2 (some 60)) 3 (some 61))) 62 (va_up (va_up (va_up (fun _ => none) 0 (some 63)) 2 (some 64)) 3 (some 65))) 49 (va_up (va_up (va_up (va_up (fun _ => none) 0 (some 50)) 1 (some 54)) 2 (some 58)) 3 (some 62))) 67 (va_up (va_up (va_up (fun _ => none) 0 (some 68)) 1 (some 69)) 2 (some 70))) 71 (va_up (va_up (va_up (fun _ => none) 0 (some 72)) 1 (some 73)) 2 (some 74))) 75 (va_up (va_up (va_up (fun _ => none) 0 (some 76)) 1 (some 77)) 2 (some 78))) 79 (va_up (va_up (va_up (fun _ => none) 0 (some 80)) 1 (some 81)) 2 (some 82))) 66 (va_up (va_up (va_up (va_up (fun _ => none) 0 (some 67)) 1 (some 71)) 2 (some 75)) 3 (some 79))) 83 (va_up (va_up (va_up (fun _ => none) 0 (some 84)) 1 (some 85)) 2 (some 86))) 87 (va_up (va_up (va_up (fun _ => none) 0 (some 88)) 1 (some 89)) 2 (some 90))) 91 (va_up (fun _ => none) 1 (some 92))) 93 (va_up (fun _ => none) 2 (some 94))) 95 (va_up (va_up (va_up (fun _ => none) 0 (some 96)) 1 (some 97)) 2 (some 98))) 99 (va_up (fun _ => none) 1 (some 100))) 101 (va_up (va_up (va_up (va_up (fun _ => none) 1 (some 102)) 2 (some 103)) 3 (some 104)) 4 (some 3))) 106 (va_up (va_up (va_up (fun _ => none) 0 (some 107)) 1 (some 108)) 2 (some 109))) 105 (va_up (va_up (va_up (va_up (va_up (fun _ => none) 0 (some 106)) 1 (some 110)) 2 (some 3)) 3 (some 48)) 4 (some 87))) 0 (va_up (va_up (va_up (va_up (va_up (va_up (va_up (va_up (va_up (va_up (va_up (va_up (va_up (va_up (fun _ => none) 0 (some 1)) 1 (some 3)) 2 (some 23)) 3 (some 43)) 4 (some 48)) 5 (some 66)) 6 (some 83)) 8 (some 87)) 9 (some 91)) 10 (some 93)) 11 (some 95)) 12 (some 99)) 14 (some 101)) 15 (some 105)))
def s12 : AS := (sR (sI (sI s11 111 (upd (s11.1 111) 34 (iI (-1)))) 111 (upd ((sI s11 111 (upd (s11.1 111) 34 (iI (-1)))).1 111) 35 (iI 20))) 111 (va_up (va_up (va_up (va_up (va_up (va_up (va_up (va_up (va_up (va_up (va_up (va_up (va_up (va_up (va_up (va_up (va_up (va_up (va_up (va_up (va_up (va_up (va_up (va_up (fun _ => none) 1 (some 112)) 2 (some 113)) 3 (some 114)) 4 (some 115)) 5 (some 112)) 15 (some (2000 + 6))) 16 (some (2000 + 7))) 18 (some 116)) 19 (some 117)) 20 (some 118)) 21 (some 119)) 22 (some 120)) 23 (some 121)) 24 (some 122)) 25 (some 123)) 32 (some 124)) 33 (some 125)) 37 (some 126)) 38 (some 127)) 39 (some 128)) 42 (some 129)) 43 (some 130)) 44 (some 131)) 46 (some 132)))
theorem zs_Z : Zr zs 0 := fun _ _ => ⟨rfl, rfl, rfl⟩
theorem s11_Z : Zr s11 111 := (Zr_sR (Zr_sR (Zr_sR (Zr_sR (Zr_sR (Zr_sR (Zr_sR (Zr_sR (Zr_sR (Zr_sR (Zr_sR (Zr_sR (Zr_sR (Zr_sR (Zr_sR (Zr_sR (Zr_sR (Zr_sR (Zr_sR (Zr_sR (Zr_sR (Zr_sR (Zr_sR (Zr_sR (Zr_sR (Zr_sR (Zr_sR (Zr_sR (Zr_sR (Zr_sR (Zr_sI (Zr_sI (zs_Z.up (by decide)) (by decide)) (by decide)) (by decide)) (by decide)) (by decide)) (by decide)) (by decide)) (by decide)) (by decide)) (by decide)) (by decide)) (by decide)) (by decide)) (by decide)) (by decide)) (by decide)) (by decide)) (by decide)) (by decide)) (by decide)) (by decide)) (by decide)) (by decide)) (by decide)) (by decide)) (by decide)) (by decide)) (by decide)) (by decide)) (by decide)) (by decide)) (by decide))
theorem s12_Z : Zr s12 133 := (Zr_sR (Zr_sI (Zr_sI (s11_Z.up (by decide)) (by decide)) (by decide)) (by decide))
theorem lookup_mem {k : Nat} {v : List (Option Nat)} : ∀ (l : List (Nat × List (Option Nat))), l.lookup k = some v → (k, v) ∈ l
  | [], h => by cases h
  | (a, b) :: l, h => by
    unfold List.lookup at h
    cases hk : k == a with
    | true => rw [hk] at h; have := Option.some.inj h; subst this; rw [eq_of_beq hk]; exact List.mem_cons_self
    | false => rw [hk] at h; exact List.mem_cons_of_mem _ (lookup_mem l h)
theorem R0t_bd : ∀ p ∈ R0t, p.1 < 134 ∧ p.2.length ≤ 48 := by decide +kernel
theorem R0_bd {k j a : Nat} (h : R0 k j = some a) : k < 134 ∧ j < 48 := by
  unfold R0 at h
  cases hl : R0t.lookup k with
  | none => rw [hl] at h; simp at h
  | some v =>
    rw [hl] at h
    have h1 := R0t_bd _ (lookup_mem _ hl)
    have h2 : j < v.length := by
      by_cases hj : j < v.length
      · exact hj
      · rw [Option.getD_some, List.getD_eq_getElem?_getD, List.getElem?_eq_none (by omega)] at h
        cases h
    have h3 : v.length ≤ 48 := h1.2
    exact ⟨h1.1, by omega⟩
theorem R0_ok : ∀ k, k < 134 → ∀ j, j < 48 → R0 k j = none ∨ R0 k j = s12.2.2 k j := by decide +kernel
theorem s12_RO : RO s12 := by
  intro k j a h
  obtain ⟨hk, hj⟩ := R0_bd h
  rcases R0_ok k hk j hj with e | e
  · rw [e] at h; cases h
  · rw [← e]; exact h
def i12 : Nat → Nat → Int32 := fun a => if a = 111 then upd (upd (fun _ => 0) 34 (iI (-1))) 35 (iI 20) else if a = 0 then upd (fun _ => 0) 16 (iI 20) else if a = 48 then upd (fun _ => 0) 2 (iI (-1)) else fun _ => 0
theorem s12_i (a : Nat) : s12.1 a = i12 a := by
  unfold i12
  by_cases h1 : a = 111
  · subst h1; rfl
  · rw [if_neg h1]
    by_cases h2 : a = 0
    · subst h2; rfl
    · rw [if_neg h2]
      by_cases h3 : a = 48
      · subst h3; rfl
      · rw [if_neg h3]
        simp [s12, s11, sR, sI, zs, h1, h2, h3]
theorem s12_0 {k : Nat} (h1 : k ≠ 111) (h2 : k ≠ 0) (h3 : k ≠ 48) (j : Nat) : s12.1 k j = iI 0 := by
  rw [s12_i]; unfold i12; rw [if_neg h1, if_neg h2, if_neg h3]; rfl
theorem s12_l (k j : Nat) : s12.2.1 k j = 0 := rfl
def w0 : WT := (fun _ => 0, fun _ => 0, fun _ => 0, 0, 0, 0)
def X0 : XS := mkX [] (0, 0, 0, fun _ => 0, fun _ _ => 0, fun _ _ => 0) w0 (fun _ _ => 0) [] none [] [] (-1) [] 20 0
theorem X0_K : XK X0 := by
  refine ⟨?_, ⟨by decide, by decide, fun j _ => ⟨by show (0 : Int) ≤ 0; decide, by show (0 : Int) ≤ 9; decide⟩, fun i h => absurd h (by show ¬ i < 0; omega), fun i h => absurd h (by show ¬ i < 0; omega)⟩, ⟨fun i h => absurd h (by show ¬ i < 0; omega), fun i _ => ⟨rfl, rfl, rfl⟩, by decide, by decide⟩, by decide, ⟨by decide, ?_, fun a h => absurd h List.not_mem_nil⟩, (fun a l h => by cases h), ⟨by decide, fun m h => absurd h List.not_mem_nil⟩, ?_, ⟨by decide, fun m h => absurd h List.not_mem_nil⟩, ⟨by decide, by decide⟩, by decide, by decide⟩
  · exact ⟨by decide, fun b h => absurd h List.not_mem_nil⟩
  · trivial
  · exact ⟨by decide, by decide, by decide, fun x h => absurd h List.not_mem_nil⟩
theorem X0_C : CI s12 X0 := by
  refine ⟨⟨s12_0 (by decide) (by decide) (by decide) 1, fun i b h => by cases h⟩, ⟨s12_0 (by decide) (by decide) (by decide) 4, s12_0 (by decide) (by decide) (by decide) 5, fun j _ => s12_0 (by decide) (by decide) (by decide) j, fun i j h => absurd h (by show ¬ i < 0; omega), fun i j h => absurd h (by show ¬ i < 0; omega)⟩, ⟨fun i _ => ⟨s12_0 (by decide) (by decide) (by decide) i, s12_0 (by decide) (by decide) (by decide) i, s12_0 (by decide) (by decide) (by decide) i⟩, s12_0 (by decide) (by decide) (by decide) 3, s12_0 (by decide) (by decide) (by decide) 4, s12_0 (by decide) (by decide) (by decide) 5⟩, ⟨s12_0 (by decide) (by decide) (by decide) 0, fun a h => ?_⟩, ⟨s12_0 (by decide) (by decide) (by decide) 0, 0, by decide, s12_0 (by decide) (by decide) (by decide) 1, fun j a h => by cases h⟩, ⟨by rw [s12_i]; decide, fun a l h => by cases h⟩, ⟨s12_0 (by decide) (by decide) (by decide) 0, fun j m h => by cases h⟩, ⟨by rw [s12_i]; decide, by rw [s12_i]; decide, fun k x h => by cases h⟩, ⟨by rw [s12_i]; decide, fun k L h => by cases h⟩, by rw [s12_i]; decide, by rw [s12_i]; decide⟩
  rcases List.mem_cons.mp h with rfl | h
  · intro i k h; exact absurd h (by show ¬ i < 0; omega)
  · exact absurd h List.not_mem_nil
theorem X0_M : MI s12 X0 := by
  refine ⟨⟨by rw [s12_i]; decide, fun i b h => by cases h⟩, ⟨by rw [s12_i]; decide, by rw [s12_i]; decide, fun j _ => s12_0 (by decide) (by decide) (by decide) j, fun i j h => absurd h (by show ¬ i < 0; omega), fun i j h => absurd h (by show ¬ i < 0; omega)⟩, ⟨⟨fun i _ => ⟨s12_0 (by decide) (by decide) (by decide) _, s12_0 (by decide) (by decide) (by decide) _, s12_0 (by decide) (by decide) (by decide) _⟩, s12_0 (by decide) (by decide) (by decide) 21, s12_0 (by decide) (by decide) (by decide) 22, s12_0 (by decide) (by decide) (by decide) 23⟩, s12_0 (by decide) (by decide) (by decide) 24, fun i k h => absurd h (by show ¬ i < 0; omega)⟩, ⟨by rw [s12_i]; decide, fun j a h => by cases h⟩, ⟨by rw [s12_i]; decide, fun a l h => by cases h⟩, ⟨by rw [s12_i]; decide, fun j m h => by cases h⟩, ⟨by rw [s12_i]; decide, by rw [s12_i]; decide, fun k x h => by cases h⟩, fun i _ => Or.inl rfl, ⟨fun _ => 0, fun j _ => ⟨s12_0 (by decide) (by decide) (by decide) _, by show bd6 0; unfold bd6; decide⟩⟩, ⟨by rw [s12_i]; decide, fun k L h => by cases h⟩, by rw [s12_i]; decide, by rw [s12_i]; decide⟩
