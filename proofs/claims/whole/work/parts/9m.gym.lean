/-! GY: new int[N][M]; String.length -/
section GYS
variable {p : Program} {l : Launch} {e : Env} {R : Room} {s : State} {m : MethodId} {args : Array Value} {below : List Frame} {meth : Method} {c : Code} {Q : State → Prop} {D : va_G} {cA ad : Nat → Nat} {nL cells slots n pc : Nat} {lv st : List Value} {σ : AS} {own : String} {cc : ByteArray}
theorem gy_mna {index N M : Nat} {x y : Int32} (hB : BX p s m args c D cA ad own cc nL) (hA : AdS ad) (hn : n + 1 + N ≤ nC) (hw : Cond.classLink own index "[[I" ∈ tb) (hover : aO_2 .int s) (hs : sh[n]? = some (6, N)) (hsi : ∀ j, j < N → sh[n + 1 + j]? = some (1, M)) (hZ : Zr σ n) (hx0 : ¬ x < 0) (hy0 : ¬ y < 0) (hxN : x.toNatClampNeg = N) (hyM : y.toNatClampNeg = M) (hN : N ≤ 10000) (hM : M ≤ 10000) (hcells : cells + (1 + N) ≤ R.cells) (hslots : slots + (N + N * M) ≤ R.slots) (hd : decode cc pc = .ok (.multianewarray index 2, 4)) (kk : GY p l e R s m args below meth c Q D cA ad nL (cells + (1 + N)) (slots + (N + N * M)) (n + 1 + N) (pc + 4) lv (.ref n :: st) (sR σ n (fun j => if j < N then some (n + 1 + j) else none))) : GY p l e R s m args below meth c Q D cA ad nL cells slots n pc lv (.int y :: .int x :: st) σ := by
  intro H locs ls hP hsz hS hl
  obtain ⟨hx, hb, hml, hown, hts, hC⟩ := hB
  subst hxN
  subst hyM
  intro T hT Xs
  obtain ⟨vm₁, cA', comp, fA, fC, X', step⟩ := mz_go Xs hx hown (show (Cond.classLink own index ("[" ++ (FieldType.array FieldType.int).toString)).before args s = true from hts _ hw) hover (hts _ (tb_t 55 (by decide +kernel) (by decide +kernel))) rfl (g := F0 m pc ls (.int y :: .int x :: st.map (cv ad))) rfl (by rw [hb]; exact hd) rfl hx0 hy0 (by omega) (by show _ * 4 ≤ _; omega) (by omega) hcells hslots
  have q0 := (hC.1.2 0 _ rfl).2
  have q5 := (hC.1.2 5 _ rfl).2
  have ec : comp = cA 0 := Option.some.inj (fC.symm.trans q0)
  subst ec
  have ea : cA' = cA 5 := Option.some.inj (fA.symm.trans q5)
  subst ea
  have hTh : (T.setVm vm₁).heap = H := hT
  have f1 := mz_size (T.setVm vm₁) (cA 5) x.toNatClampNeg (arrV (cA 0) y.toNatClampNeg (fun _ => defaultValue .int)) x.toNatClampNeg
  have f2 := mz_out (T.setVm vm₁) (cA 5) x.toNatClampNeg (arrV (cA 0) y.toNatClampNeg (fun _ => defaultValue .int)) x.toNatClampNeg
  have hold : ∀ q : Nat, q < H.size → (mz_st (T.setVm vm₁) (cA 5) x.toNatClampNeg (arrV (cA 0) y.toNatClampNeg (fun _ => defaultValue .int)) x.toNatClampNeg).heap[q]? = H[q]? := fun q hq => by
    have h := mz_old (T.setVm vm₁) (cA 5) x.toNatClampNeg (arrV (cA 0) y.toNatClampNeg (fun _ => defaultValue .int)) (q := q) (by rw [hTh]; exact hq) x.toNatClampNeg
    rw [hTh] at h
    exact h
  have hrow : ∀ j : Nat, j < x.toNatClampNeg → (mz_st (T.setVm vm₁) (cA 5) x.toNatClampNeg (arrV (cA 0) y.toNatClampNeg (fun _ => defaultValue .int)) x.toNatClampNeg).heap[H.size + 1 + j]? = some (arrV (cA 0) y.toNatClampNeg (fun _ => defaultValue .int)) := fun j hj => by
    have h := mz_row (T.setVm vm₁) (cA 5) x.toNatClampNeg (arrV (cA 0) y.toNatClampNeg (fun _ => defaultValue .int)) j x.toNatClampNeg hj
    rw [hTh] at h
    exact h
  rw [hTh] at f1 f2
  generalize hF : mz_st (T.setVm vm₁) (cA 5) x.toNatClampNeg (arrV (cA 0) y.toNatClampNeg (fun _ => defaultValue .int)) x.toNatClampNeg = F at X' step f1 f2 hold hrow
  unfold mz_oc at f2
  have hP1 : va_P D cls (wsN ad cA (sR σ n (fun j => if j < x.toNatClampNeg then some (n + 1 + j) else none)) (n + 1 + x.toNatClampNeg)) F.heap := by
    intro i q hq
    obtain ⟨hi, -⟩ := wsN_at hq
    by_cases h1 : i < n
    · have hsh : ∃ z, sh[i]? = some z := ⟨_, List.getElem?_eq_getElem (by rw [sh_len]; omega)⟩
      obtain ⟨z, hz⟩ := hsh
      rw [wsN_get hz hi] at hq
      cases hq
      rw [cellA_sR i (by omega) z]
      have h2 := hP i _ (wsN_get hz h1)
      exact h2.kept (hold _ h2.lt)
    · by_cases h2 : i = n
      · subst h2
        rw [wsN_get hs hi] at hq
        cases hq
        show F.heap[ad i]? = some (vp_cell _ _)
        rw [vp_cell_q, ← hsz, f2]
        congr 1
        congr 1
        funext j
        simp only [sR, ↓reduceIte]
        by_cases hj : j < x.toNatClampNeg
        · rw [if_pos hj, if_pos hj]
          show va_rf (some _) = va_rf (some _)
          rw [show i + 1 + j = i + (1 + j) by omega, hA.add (1 + j) i (by omega), hsz]
          rw [show ad i + 1 + j = ad i + (1 + j) by omega]
        · rw [if_neg hj, if_neg hj]; rfl
      · obtain ⟨j, rfl⟩ : ∃ j, i = n + 1 + j := ⟨i - (n + 1), by omega⟩
        have hj : j < x.toNatClampNeg := by omega
        rw [wsN_get (hsi j hj) hi] at hq
        cases hq
        rw [cellA_sR _ (by omega) _]
        show F.heap[ad (n + 1 + j)]? = some (vp_cell _ _)
        have ha : ad (n + 1 + j) = H.size + 1 + j := by rw [show n + 1 + j = n + (1 + j) by omega, hA.add (1 + j) n (by omega), hsz]; omega
        rw [ha, hrow j hj, (hZ (n + 1 + j) (by omega)).1]
        rfl
  have hz1 : F.heap.size = ad (n + 1 + x.toNatClampNeg) := by
    rw [show n + 1 + x.toNatClampNeg = n + (1 + x.toNatClampNeg) by omega, hA.add _ n (by omega), f1, hsz]
    omega
  obtain ⟨t, a1, b1⟩ := kk F.heap locs ls hP1 hz1 ⟨by rw [f1]; have := hS.1; omega, fun q h1 h2 => (hold q (Nat.lt_of_lt_of_le h1 hS.1)).trans (hS.2.1 q h1 h2), hS.2.2⟩ hl F rfl (by rw [← Nat.add_assoc, ← Nat.add_assoc]; exact X')
  refine ⟨t, step t ?_, b1⟩
  have e : T.heap.size = ad n := by rw [hT, hsz]
  rw [e]
  exact a1
end GYS
theorem cy_coder {l : Launch} {D : va_G} {cA ad : Nat → Nat} {d n : Nat} {σ : AS} {K : Option Value → AS → Prop} {i : Nat} (hi : i < 12) (hK : K (some (.int (iI 0))) σ) : CallY l D cA ad d 0 0 mJ0_coder_7d493 [.ref (2000 + i)] n n σ K := by
  refine cally_gy (by decide) (Nat.le_of_ble_eq_true rfl) (fun p e s m args below meth c hB hI hnm hlk hrt => ?_)
  show GY p l e _ s m args below meth c _ D cA ad _ 0 0 n 0 [.ref (2000 + i)] [] σ
  refine gy_scomp hB gJ0_38 dJ0_coder_7d493_0 ?_
  refine gy_if_eq (tgt := 13) hB dJ0_coder_7d493_3 (by decide) (fun h3 => absurd h3 (by decide)) (fun h3 => ?_)
  refine gy_aload_n hB dJ0_coder_7d493_6 rfl ?_
  refine gy_scod (i := i) hB hi gJ0_15 dJ0_coder_7d493_7 ?_
  refine gy_goto (tgt := 14) hB dJ0_coder_7d493_10 (by decide) ?_
  exact gy_iret hB hlk hrt (by decide) dJ0_coder_7d493_14 hK
theorem cy_length {l : Launch} {D : va_G} {cA ad : Nat → Nat} {d n : Nat} {σ : AS} {K : Option Value → AS → Prop} {i : Nat} (hi : i < 12) (hK : K (some (.int (iI (strB i).length))) σ) : CallY l D cA ad (d + 1) 0 0 mJ0_length_8abf5 [.ref (2000 + i)] n n σ K := by
  refine cally_gy (by decide) (Nat.le_of_ble_eq_true rfl) (fun p e s m args below meth c hB hI hnm hlk hrt => ?_)
  show GY p l e _ s m args below meth c _ D cA ad _ 0 0 n 0 [.ref (2000 + i)] [] σ
  refine gy_aload_n hB dJ0_length_8abf5_0 rfl ?_
  refine gy_sval (i := i) hB hi gJ0_9 dJ0_length_8abf5_1 ?_
  refine gy_slen (i := i) hB hi dJ0_length_8abf5_4 ?_
  refine gy_aload_n hB dJ0_length_8abf5_5 rfl ?_
  refine gy_callVs (d := d) (i := i) (as := []) hB hI hi wJ0_335 rfl ⟨Nat.le_refl _, Nat.le_refl _, Nat.le_refl _, Nat.le_refl _⟩ dJ0_length_8abf5_6 rfl rfl (Nat.le_of_ble_eq_true rfl) (cy_coder hi ?_)
  refine gy_ishr hB dJ0_length_8abf5_9 ?_
  refine gy_iret hB hlk hrt rfl dJ0_length_8abf5_10 ?_
  rw [shr0]
  exact hK
