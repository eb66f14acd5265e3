/-! the law's first steps -/
section GYS
variable {p : Program} {l : Launch} {e : Env} {R : Room} {s : State} {m : MethodId} {args : Array Value} {below : List Frame} {meth : Method} {c : Code} {Q : State → Prop} {D : va_G} {cA ad : Nat → Nat} {nL cells slots n pc : Nat} {lv st : List Value} {σ : AS} {own : String} {cc : ByteArray} {b L : Nat} {xs : Nat → Int32}
theorem gy_astore_n {n9 : Fin 4} {x : Nat} (hB : BX p s m args c D cA ad own cc nL) (hd : decode cc pc = .ok (.astore_n n9, 1)) (hi : (n9 : Nat) < nL) (hs : stOK lv (n9 : Nat) = true) (k : GY p l e R s m args below meth c Q D cA ad nL cells slots n (pc + 1) (lv.set (n9 : Nat) (.ref x)) st σ) : GY p l e R s m args below meth c Q D cA ad nL cells slots n pc lv (.ref x :: st) σ := by
  intro H locs ls hP hsz hS hl
  exact lv_astore_n hB.1 hB.2.1 hd rfl hl hi rfl (fun ls hl => k H locs ls hP hsz hS (lv_less hl (lvL_set hs)))
theorem gy_istore {i : Nat} {x : Int32} (hB : BX p s m args c D cA ad own cc nL) (hd : decode cc pc = .ok (.istore i, 2)) (hi : i < nL) (hs : stOK lv i = true) (k : GY p l e R s m args below meth c Q D cA ad nL cells slots n (pc + 2) (lv.set i (.int x)) st σ) : GY p l e R s m args below meth c Q D cA ad nL cells slots n pc lv (.int x :: st) σ := by
  intro H locs ls hP hsz hS hl
  exact lv_istore hB.1 hB.2.1 hd hl hi rfl (fun ls hl => k H locs ls hP hsz hS (lv_less hl (lvL_set hs)))
theorem gy_gx (h : GX p l e R s m args below meth c Q D cA ad nL cells slots pc lv st σ) : GY p l e R s m args below meth c Q D cA ad nL cells slots nC pc lv st σ := fun H locs ls hP _ hS hl => h H locs ls hP hS hl
theorem law_go (hl : l.stackTraces = false) (hX : LX p s m args c D cA ad b L xs) (hT : CxT ad s s.heap) (hI : CxI s) (hA : AdS ad) (hend : ∀ (cells slots i : Nat) (σ : AS), cells ≤ room_1.cells → slots ≤ room_1.slots → GX p l e room_1 s m args below meth c Q D cA ad 7 cells slots 1651 (LV i) [] σ) : GY p l e room_1 s m args below meth c Q D cA ad 7 0 0 0 0 [.ref 5000, .null, .null, .null, .null, .null, .null] [] zs := by
  have hB := hX.1
  refine gy_new (T := TX11) (N := 19) hB hA (by decide) (tb_t 26 (by decide +kernel) (by decide +kernel)) (tb_t 27 (by decide +kernel) (by decide +kernel)) (tb_t 1 (by decide +kernel) (by decide +kernel)) rfl rfl zs_Z (by show _ ≤ 601024; decide) (by show _ ≤ 7293034; decide) dL_law_0 ?_
  refine gy_dup hB dL_law_3 rfl ?_
  refine gy_callI (d := 8) (as := []) hB hI (tb_t 28 (by decide +kernel) (by decide +kernel)) kX11_init ⟨by decide, by decide, (by show _ ≤ 601024; decide), (by show _ ≤ 7293034; decide)⟩ dL_law_4 rfl rfl (Nat.le_of_ble_eq_true rfl) (cy_X11_init (d := 0) hA zs_Z ⟨rfl, ?_⟩)
  show GY p l e room_1 s m args below meth c Q D cA ad 7 _ _ 111 _ _ _ s11
  refine gy_astore_n hB dL_law_7 (by decide) rfl ?_
  refine gy_new (T := TX12) (N := 48) hB hA (by decide) (tb_t 1184 (by decide +kernel) (by decide +kernel)) (tb_t 1185 (by decide +kernel) (by decide +kernel)) (tb_t 14 (by decide +kernel) (by decide +kernel)) rfl rfl s11_Z (by show _ ≤ 601024; decide) (by show _ ≤ 7293034; decide) dL_law_8 ?_
  refine gy_dup hB dL_law_11 rfl ?_
  refine gy_callI (d := 2) (as := []) hB hI (tb_t 1186 (by decide +kernel) (by decide +kernel)) kX12_init ⟨by decide, by decide, (by show _ ≤ 601024; decide), (by show _ ≤ 7293034; decide)⟩ dL_law_12 rfl rfl (Nat.le_of_ble_eq_true rfl) (cy_X12_init (d := 0) hA s11_Z ⟨rfl, ?_⟩)
  show GY p l e room_1 s m args below meth c Q D cA ad 7 _ _ 133 _ _ _ s12
  refine gy_astore_n hB dL_law_15 (by decide) rfl ?_
  refine gy_iconst (v := iI 1) hB dL_law_16 (by decide) ?_
  refine gy_newL hB hA (by decide) rfl s12_Z (by decide) (by decide) (by decide) (by show _ ≤ 601024; decide) (by show _ ≤ 7293034; decide) dL_law_17 ?_
  refine gy_astore_n hB dL_law_19 (by decide) rfl ?_
  refine gy_iconst (v := iI 0) hB dL_law_20 (by decide) ?_
  refine gy_istore hB dL_law_21 (by decide) rfl ?_
  show GY p l e room_1 s m args below meth c Q D cA ad 7 _ _ nC 23 (LV 0) [] s12
  refine gy_gx (law_loop hl hX hT hend 512 0 _ _ X0 s12 ?_ (by decide) (by decide) (by decide) s12_RO X0_K X0_C X0_M)
  have := hX.2.2.2.2.2
  omega
end GYS
