/-! the start: Cx, CxT, CxI -/
theorem xOf {args : Array Value} {s : State} {tm : Term} {N : Nat} {f : Nat → Int32} (hN : N < 2 ^ 31) (harr : (Cond.arrayOf tm .int).before args s = true) (hlen : (Term.length tm).eval args s none [] s = some (.int (Int32.ofNat N))) (hel : ∀ j : Nat, j < N → (Term.elem tm (.int (Int32.ofNat j))).eval args s none [] s = some (.int (f j))) : ∃ t : Nat, tm.eval args s none [] s = some (.ref t) ∧ t < s.heap.size ∧ va_X t N f s s.heap := by
  obtain ⟨t, ht, cell, c1, c2, c3, c4, c5, c6, -⟩ := va_Tof (A := fun _ => False) (f := fun j => .int (f j)) hN harr hlen hel (fun _ _ h => h)
  obtain ⟨t', cell', h1, h2, -⟩ := Term.length_spec hlen
  cases ht.symm.trans h1
  obtain ⟨hc', -, -, -⟩ := State.arrayAt?_spec h2
  cases c1.symm.trans hc'
  have hsz : cell.slots.size < 2 ^ 31 := by
    simp only [Term.eval, ht, h2, Option.bind_eq_bind, Option.bind_some] at hlen
    by_cases hlt : cell.slots.size < 2147483648
    · exact hlt
    · simp [hlt] at hlen
  have e : cell.slots.size = N := by
    have h3 : (Int32.ofNat cell.slots.size).toInt = (Int32.ofNat N).toInt := congrArg Int32.toInt c5
    rw [Int32.toInt_ofNat_of_lt hsz, Int32.toInt_ofNat_of_lt hN] at h3
    omega
  exact ⟨t, ht, (Array.getElem?_eq_some_iff.mp c1).1, cell, c1, c2, c3, e, c6⟩
def adF (B : Nat) (st ss sv : Nat → Nat) (fm b : Nat) : Nat → Nat := fun k => if k ≤ 134 then B + k else if k < 1009 then st (k - 1000) else if k < 2012 then ss (k - 2000) else if k < 3012 then sv (k - 3000) else if k = 4000 then fm else b
theorem adF_S {B : Nat} {st ss sv : Nat → Nat} {fm b : Nat} : AdS (adF B st ss sv fm b) := by
  intro k hk
  have hk : k < 134 := hk
  unfold adF
  rw [if_pos (by omega), if_pos (by omega)]
  omega
theorem adF_o {B : Nat} {st ss sv : Nat → Nat} {fm b q : Nat} (h : oA (adF B st ss sv fm b) q) : B ≤ q := by
  obtain ⟨k, hk, e⟩ := h
  have hk : k < 134 := hk
  unfold adF at e
  rw [if_pos (by omega)] at e
  omega
theorem adF_i {B : Nat} {st ss sv : Nat → Nat} {fm b : Nat} : ∀ i j, i < nC → j < nC → adF B st ss sv fm b i = adF B st ss sv fm b j → i = j := by
  intro i j hi hj e
  have hi : i < 134 := hi
  have hj : j < 134 := hj
  unfold adF at e
  rw [if_pos (by omega), if_pos (by omega)] at e
  omega
theorem aO_s {s : State} {args : Array Value} {t : FieldType} (h : (Cond.arrayOver (.array t)).before args s = true) : ∃ c k comp, s.vm.findClass ("[" ++ (FieldType.array t).toString) = some c ∧ s.vm.classes[c]? = some k ∧ k.kind = .array comp (.array t) := by
  unfold Cond.before Cond.holds at h
  simp only [Cond.value, beq_iff_eq] at h
  cases hc : s.vm.findClass (FieldType.array t).toString with
  | none => rw [hc] at h; simp at h
  | some comp =>
    rw [hc] at h
    simp only [Option.bind_some, Option.bind_eq_some_iff, Option.map_eq_some_iff] at h
    obtain ⟨c, hi, k, hk, hb⟩ := h
    cases hkind : k.kind with
    | array component ty =>
      rw [hkind] at hb
      simp only [Bool.and_eq_true, decide_eq_true_eq] at hb
      exact ⟨c, k, component, hb.2, hk, by rw [hkind, hb.1]⟩
    | _ => rw [hkind] at hb; simp at hb
theorem start_K {args : Array Value} {s : State} (hts : ∀ w ∈ lw_tbl, w.before args s = true) : ∃ (D : va_G) (cA : Nat → Nat), va_K D cls (tysA cA) s := by
  have hts' : ∀ w ∈ tb, w.before args s = true := fun w hw => hts w (List.mem_filter.mp hw).1
  have hD : ∀ ci : Nat, ∃ q : ClassId × (Nat → Nat), ∀ r, cls[ci]? = some r → u_Kn s r.1 r.2.1 r.2.2 q.1 q.2 := by
    intro ci
    cases h : cls[ci]? with
    | none => exact ⟨(0, fun _ => 0), fun r hr => by cases hr⟩
    | some r =>
      obtain ⟨cC, iS, hk⟩ := u_known hts' (cls_in r (List.mem_of_getElem? h)) (hts _ (lq_c r (List.mem_of_getElem? h)))
      exact ⟨(cC, iS), fun r' hr => by cases hr; exact hk⟩
  obtain ⟨dd, hdd⟩ := Classical.axiomOfChoice hD
  obtain ⟨l1, l2, l3, l4, l5, l6⟩ := lq_r
  obtain ⟨a0, k0, m0, x0, y0, z0⟩ := Cond.arrayClass_spec (hts _ l1)
  obtain ⟨a1, k1, m1, x1, y1, z1⟩ := Cond.arrayClass_spec (hts _ l2)
  obtain ⟨a2, k2, m2, x2, y2, z2⟩ := Cond.arrayClass_spec (hts _ l3)
  obtain ⟨m3, a3, k3, u3, -, y3, z3, x3⟩ := Cond.arrayOver_spec (hts _ l4)
  obtain ⟨m4, a4, k4, u4, -, y4, z4, x4⟩ := Cond.arrayOver_spec (hts _ l5)
  obtain ⟨a5, k5, m5, x5, y5, z5⟩ := aO_s (hts _ l6)
  refine ⟨(fun ci => (dd ci).1, fun ci => (dd ci).2), fun i => [a0, a1, a2, a3, a4, a5].getD i 0, fun ci r hr => hdd ci r hr, fun k q hq => ?_⟩
  match k, hq with
  | 0, hq => cases hq; exact ⟨fun N z => ⟨(fun k h => by cases h), k0, y0, m0, z0⟩, x0⟩
  | 1, hq => cases hq; exact ⟨fun N z => ⟨(fun k h => by cases h), k1, y1, m1, z1⟩, x1⟩
  | 2, hq => cases hq; exact ⟨fun N z => ⟨(fun k h => by cases h), k2, y2, m2, z2⟩, x2⟩
  | 3, hq => cases hq; exact ⟨fun N z => ⟨(fun k h => by cases h), k3, y3, m3, z3⟩, k3, m3, y3, z3, u3, x3⟩
  | 4, hq => cases hq; exact ⟨fun N z => ⟨(fun k h => by cases h), k4, y4, m4, z4⟩, k4, m4, y4, z4, u4, x4⟩
  | 5, hq => cases hq; exact ⟨fun N z => ⟨(fun k h => by cases h), k5, y5, m5, z5⟩, x5⟩
  | k + 6, hq => simp at hq
theorem start_I {args : Array Value} {s : State} (hts : ∀ w ∈ lw_tbl, w.before args s = true) : CxI s := by
  obtain ⟨l1, l2, l3, l4, l5, l6⟩ := lq_r
  refine ⟨fun w hw => ?_, va_AO.of (hts _ l4), va_AO.of (hts _ l5), fun A => hts _ l6⟩
  have h1 := hts w (lq_x w hw)
  simp only [nestI, List.mem_cons, List.not_mem_nil, or_false] at hw
  rcases hw with rfl | rfl | rfl | rfl | rfl | rfl | rfl | rfl | rfl <;> exact va_Nw.of rfl h1
theorem start_C {b : Nat} {s : State} (hts : ∀ w ∈ lw_tbl, w.before #[Value.ref b] s = true) (hg : (Jvm.Cond.and given_1 narrow_1).before #[Value.ref b] s = true) : ∃ (D : va_G) (cA ad : Nat → Nat), Cx D cA ad s s.heap ∧ CxT ad s s.heap ∧ AdS ad ∧ ad 0 = s.heap.size ∧ ad 5000 = b ∧ (∀ q, oA ad q → s.heap.size ≤ q) := by
  obtain ⟨D, cA, hK⟩ := start_K hts
  have hs : ∀ w ∈ fl, w.before #[Value.ref b] s = true := flat_of_before _ hg
  have hA : ∀ a : Nat, a < s.heap.size → ¬ (fun q => s.heap.size ≤ q) a := fun a h => by show ¬ s.heap.size ≤ a; omega
  have h1 : ∀ j : Nat, ∃ t : Nat, j < 9 → (aT j).eval #[Value.ref b] s none [] s = some (.ref t) ∧ t < s.heap.size ∧ va_X t (stV j).length (fun i => (stV j).getD i 0) s s.heap := by
    intro j
    by_cases hj : j < 9
    · obtain ⟨t, ht⟩ := xOf (f := fun i => (stV j).getD i 0) (Nat.lt_of_le_of_lt (show (stV j).length ≤ 9 from (show ∀ j, j < 9 → (stV j).length ≤ 9 by decide) j hj) (by decide)) (hs _ (fl_a1 j hj)) (va_eqt (hs _ (fl_a2 j hj))) (fun i hi => va_eqt (hs _ (fl_a3 j hj i hi)))
      exact ⟨t, fun _ => ht⟩
    · exact ⟨0, fun h => absurd h hj⟩
  obtain ⟨stt, hst⟩ := Classical.axiomOfChoice h1
  have h2 : ∀ i : Nat, ∃ q : Nat × Nat, i < 12 → (sT i).eval #[Value.ref b] s none [] s = some (.ref q.1) ∧ va_O "java/lang/String" q.1 (fun q => s.heap.size ≤ q) s s.heap ∧ va_OF "java/lang/String" "coder" "B" (.int 0) q.1 (fun q => s.heap.size ≤ q) s s.heap ∧ va_OF "java/lang/String" "value" "[B" (.ref q.2) q.1 (fun q => s.heap.size ≤ q) s s.heap ∧ va_T .byte q.2 (strB i).length (fun j => .int ((strB i).getD j 0)) (fun q => s.heap.size ≤ q) s s.heap := by
    intro i
    by_cases hi : i < 12
    · obtain ⟨a, c, cA, kA, q1, -⟩ := Cond.exactly_spec (args := #[Value.ref b]) (first := s) (o := none) (s := s) (idx := []) (t := sT i) (cls := "java/lang/String") (hs _ (fl_s1 i hi))
      obtain ⟨t, ht, hT⟩ := va_Tof (f := fun j => .int ((strB i).getD j 0)) (A := fun q => s.heap.size ≤ q) (Nat.lt_of_le_of_lt (sc_ok i hi).1 (by decide)) (hs _ (fl_s3 i hi)) (va_eqt (hs _ (fl_s4 i hi))) (fun j hj => va_eqt (hs _ (fl_s5 i hi j hj))) hA
      exact ⟨(a, t), fun _ => ⟨q1, va_Oof (hs _ (fl_s1 i hi)) q1 hA, vk_OFof q1 (va_eqt (hs _ (fl_s2 i hi))) hA, vk_OFof q1 ht hA, hT⟩⟩
    · exact ⟨(0, 0), fun h => absurd h hi⟩
  obtain ⟨ss, hss⟩ := Classical.axiomOfChoice h2
  obtain ⟨i1, i2, i3, i4⟩ := lq_i
  obtain ⟨l1, l2, l3, l4⟩ := lq_l
  have hF := (vx_Zqof (A := fun q => s.heap.size ≤ q) (hts _ l2) (hts _ i3) (hs _ fl_f) hA).1
  obtain ⟨fm, hfm⟩ : ∃ fm : Nat, va_Z "jdk/internal/util/Preconditions" "SIOOBE_FORMATTER" "Ljava/util/function/BiFunction;" .null (fun q => s.heap.size ≤ q) s s.heap ∨ va_Z "jdk/internal/util/Preconditions" "SIOOBE_FORMATTER" "Ljava/util/function/BiFunction;" (.ref fm) (fun q => s.heap.size ≤ q) s s.heap := by
    rcases hF with h | ⟨t, h⟩
    · exact ⟨0, Or.inl h⟩
    · exact ⟨t, Or.inr h⟩
  have hn : ∀ q, oA (adF s.heap.size stt (fun i => (ss i).1) (fun i => (ss i).2) fm b) q → s.heap.size ≤ q := fun q h => adF_o h
  refine ⟨D, cA, adF s.heap.size stt (fun i => (ss i).1) (fun i => (ss i).2) fm b, ⟨hK, adF_i, fun j hj => ?_, fun i hi => ?_, (va_Zof (hts _ l1) (hts _ i2) (va_eqt (hs _ fl_c)) hA).narrow hn, ?_⟩, ⟨fun w hw => ?_, (vx_Zqof (hts _ l3) (hts _ i4) (hs _ fl_u) hA).narrow hn, (vx_Zqof (hts _ l4) (hts _ i4) (hs _ fl_v) hA).narrow hn⟩, adF_S, rfl, rfl, hn⟩
  · have e : adF s.heap.size stt (fun i => (ss i).1) (fun i => (ss i).2) fm b (1000 + j) = stt j := by
      unfold adF
      rw [if_neg (by omega), if_pos (by omega), show 1000 + j - 1000 = j by omega]
    rw [e]
    obtain ⟨q1, q2, q3⟩ := hst j hj
    exact ⟨va_Nw.of rfl (hts _ (lq_n j hj)), (va_Zref (hts _ (lq_a j hj)) (hts _ i1) q1 hA).narrow hn, q3, fun h => by have := hn _ h; omega⟩
  · have e : adF s.heap.size stt (fun i => (ss i).1) (fun i => (ss i).2) fm b (2000 + i) = (ss i).1 := by
      unfold adF
      rw [if_neg (by omega), if_neg (by omega), if_pos (by omega), show 2000 + i - 2000 = i by omega]
    have e' : adF s.heap.size stt (fun i => (ss i).1) (fun i => (ss i).2) fm b (3000 + i) = (ss i).2 := by
      unfold adF
      rw [if_neg (by omega), if_neg (by omega), if_neg (by omega), if_pos (by omega), show 3000 + i - 3000 = i by omega]
    rw [e, e']
    obtain ⟨q1, q2, q3, q4, q5⟩ := hss i hi
    exact ⟨vk_R.of (hts _ (lq_s i hi)) q1, q2.narrow hn, q3.narrow hn, q4.narrow hn, q5.narrow hn⟩
  · have e : adF s.heap.size stt (fun i => (ss i).1) (fun i => (ss i).2) fm b 4000 = fm := rfl
    rw [e]
    exact hfm.imp (fun h => h.narrow hn) (fun h => h.narrow hn)
  · have h1 := hts w (lq_t w hw)
    simp only [nbT, List.mem_cons, List.not_mem_nil, or_false] at hw
    rcases hw with rfl | rfl | rfl | rfl <;> exact va_Nw.of rfl h1
