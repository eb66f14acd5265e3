/-! the law: key, years, pond -/
section LAW
variable {p : Program} {l : Launch} {e : Env} {s : State} {m : MethodId} {args : Array Value} {below : List Frame} {meth : Method} {c : Code} {Q : State → Prop} {D : va_G} {cA ad : Nat → Nat} {cells slots pc : Nat} {lv st : List Value} {σ : AS} {b L i : Nat} {xs : Nat → Int32} {X : XS}
theorem lw_c9 (hX : LX p s m args c D cA ad b L xs) (hcs : cells ≤ room_1.cells ∧ slots ≤ room_1.slots) (hi : i + 8 ≤ L) (hR : RO σ) (hK0 : XK X) (hC : CI σ X) (hM : MI σ X) (hk : ∀ (X : XS) (μ : AS), RO μ → XK X → CI μ X → MI μ X → GX p l e room_1 s m args below meth c Q D cA ad 7 cells slots 1645 (LV i) [] μ) : GX p l e room_1 s m args below meth c Q D cA ad 7 cells slots 572 (LV i) [] σ := by
  refine gx_aload_n hX.1 dL_law_572 rfl ?_
  refine gx_scr (k := 1) hX hi (by decide) rfl dL_law_573 dL_law_574 dL_law_576 dL_law_577 dL_law_578 ?_
  refine gx_scr (k := 2) hX hi (by decide) rfl dL_law_579 dL_law_580 dL_law_582 dL_law_583 dL_law_584 ?_
  refine gx_if_eq (tgt := 592) hX.1 dL_law_585 (by decide) (fun h0 => ?_) (fun h0 => ?_)
  · refine gx_iconst (v := iI 0) hX.1 dL_law_592 (by decide) ?_
    refine gx_callV (d := 40) (as := [_, _]) hX.1 ⟨by decide, by decide, hcs.1, hcs.2⟩ wL_65 dL_law_593 rfl rfl rfl rfl (Nat.le_of_ble_eq_true rfl) (ct_key0 hR hK0 hC (r32 _) (fun τ fr hC1 => ?_))
    have hR1 := fr.RO hR
    have hM1 := hM.c fr
    refine gx_aload_n hX.1 dL_law_596 rfl ?_
    refine gx_scr (k := 1) hX hi (by decide) rfl dL_law_597 dL_law_598 dL_law_600 dL_law_601 dL_law_602 ?_
    refine gx_scr (k := 2) hX hi (by decide) rfl dL_law_603 dL_law_604 dL_law_606 dL_law_607 dL_law_608 ?_
    refine gx_if_eq (tgt := 616) hX.1 dL_law_609 (by decide) (fun _ => ?_) (fun h => absurd h0 h)
    refine gx_iconst (v := iI 0) hX.1 dL_law_616 (by decide) ?_
    refine gx_callV (d := 40) (as := [_, _]) hX.1 ⟨by decide, by decide, hcs.1, hcs.2⟩ wL_69 dL_law_617 rfl rfl rfl rfl (Nat.le_of_ble_eq_true rfl) (ct_mkey0 hR1 hK0 hM1 (r32 _) (fun μ fd hM2 => ?_))
    refine gx_icmp_eq (tgt := 1645) hX.1 dL_law_620 (by decide) (fun _ => ?_) (fun h => absurd rfl h)
    exact hk _ μ (fd.RO hR1) (keyK hK0) (hC1.m (keyK hK0) fd) hM2
  · refine gx_iconst (v := iI 1) hX.1 dL_law_588 (by decide) ?_
    refine gx_goto (tgt := 593) hX.1 dL_law_589 (by decide) ?_
    refine gx_callV (d := 40) (as := [_, _]) hX.1 ⟨by decide, by decide, hcs.1, hcs.2⟩ wL_65 dL_law_593 rfl rfl rfl rfl (Nat.le_of_ble_eq_true rfl) (ct_key1 hR hK0 hC (r32 _) (fun τ fr hC1 => ?_))
    have hR1 := fr.RO hR
    have hM1 := hM.c fr
    refine gx_aload_n hX.1 dL_law_596 rfl ?_
    refine gx_scr (k := 1) hX hi (by decide) rfl dL_law_597 dL_law_598 dL_law_600 dL_law_601 dL_law_602 ?_
    refine gx_scr (k := 2) hX hi (by decide) rfl dL_law_603 dL_law_604 dL_law_606 dL_law_607 dL_law_608 ?_
    refine gx_if_eq (tgt := 616) hX.1 dL_law_609 (by decide) (fun h => absurd h h0) (fun _ => ?_)
    refine gx_iconst (v := iI 1) hX.1 dL_law_612 (by decide) ?_
    refine gx_goto (tgt := 617) hX.1 dL_law_613 (by decide) ?_
    refine gx_callV (d := 40) (as := [_, _]) hX.1 ⟨by decide, by decide, hcs.1, hcs.2⟩ wL_69 dL_law_617 rfl rfl rfl rfl (Nat.le_of_ble_eq_true rfl) (ct_mkey1 hR1 hK0 hM1 (r32 _) (fun μ fd hM2 => ?_))
    refine gx_icmp_eq (tgt := 1645) hX.1 dL_law_620 (by decide) (fun _ => ?_) (fun h => absurd rfl h)
    exact hk _ μ (fd.RO hR1) (keyK hK0) (hC1.m (keyK hK0) fd) hM2
theorem lL_82 : Jvm.Cond.constantLong RL 82 4294967295 ∈ tb := tb_t 1836 (by decide +kernel) (by decide +kernel)
theorem lw_c13 (hX : LX p s m args c D cA ad b L xs) (hcs : cells ≤ room_1.cells ∧ slots ≤ room_1.slots) (hi : i + 8 ≤ L) (hR : RO σ) (hK0 : XK X) (hC : CI σ X) (hM : MI σ X) (hk : ∀ (X : XS) (μ : AS), RO μ → XK X → CI μ X → MI μ X → GX p l e room_1 s m args below meth c Q D cA ad 7 cells slots 1645 (LV i) [] μ) : GX p l e room_1 s m args below meth c Q D cA ad 7 cells slots 724 (LV i) [] σ := by
  refine gx_aload_n hX.1 dL_law_724 rfl ?_
  refine gx_scr (k := 1) hX hi (by decide) rfl dL_law_725 dL_law_726 dL_law_728 dL_law_729 dL_law_730 ?_
  refine gx_scr (k := 2) hX hi (by decide) rfl dL_law_731 dL_law_732 dL_law_734 dL_law_735 dL_law_736 ?_
  refine gx_i2l hX.1 dL_law_737 ?_
  refine gx_bipush (v := iI 32) hX.1 dL_law_738 (by decide) ?_
  refine gx_lshl hX.1 dL_law_740 ?_
  refine gx_scr (k := 3) hX hi (by decide) rfl dL_law_741 dL_law_742 dL_law_744 dL_law_745 dL_law_746 ?_
  refine gx_i2l hX.1 dL_law_747 ?_
  refine gx_ldc2 hX.1 lL_82 dL_law_748 ?_
  refine gx_land hX.1 dL_law_751 ?_
  refine gx_lor hX.1 dL_law_752 ?_
  refine gx_callV (d := 40) (as := [_, _]) hX.1 ⟨by decide, by decide, hcs.1, hcs.2⟩ wL_84 dL_law_753 rfl rfl rfl rfl (Nat.le_of_ble_eq_true rfl) (ct_X11_years hR hK0 hC (r32 _) (fun τ fr hC1 => ?_))
  have hR1 := fr.RO hR
  have hM1 := hM.c fr
  refine gx_aload_n hX.1 dL_law_756 rfl ?_
  refine gx_scr (k := 1) hX hi (by decide) rfl dL_law_757 dL_law_758 dL_law_760 dL_law_761 dL_law_762 ?_
  refine gx_scr (k := 2) hX hi (by decide) rfl dL_law_763 dL_law_764 dL_law_766 dL_law_767 dL_law_768 ?_
  refine gx_i2l hX.1 dL_law_769 ?_
  refine gx_bipush (v := iI 32) hX.1 dL_law_770 (by decide) ?_
  refine gx_lshl hX.1 dL_law_772 ?_
  refine gx_scr (k := 3) hX hi (by decide) rfl dL_law_773 dL_law_774 dL_law_776 dL_law_777 dL_law_778 ?_
  refine gx_i2l hX.1 dL_law_779 ?_
  refine gx_ldc2 hX.1 lL_82 dL_law_780 ?_
  refine gx_land hX.1 dL_law_783 ?_
  refine gx_lor hX.1 dL_law_784 ?_
  refine gx_callV (d := 40) (as := [_, _]) hX.1 ⟨by decide, by decide, hcs.1, hcs.2⟩ wL_88 dL_law_785 rfl rfl rfl rfl (Nat.le_of_ble_eq_true rfl) (ct_X12_years hR1 hK0 hM1 (r32 _) (fun μ fd hM2 => ?_))
  refine gx_icmp_eq (tgt := 1645) hX.1 dL_law_788 (by decide) (fun _ => ?_) (fun h => absurd rfl h)
  exact hk _ μ (fd.RO hR1) (yearsK hK0) (hC1.m (yearsK hK0) fd) hM2
theorem gx_less {lv' : List Value} (h : ∀ (j : Nat) (v : Value), lv'[j]? = some v → v ≠ .null → lv[j]? = some v) (k : GX p l e room_1 s m args below meth c Q D cA ad 7 cells slots pc lv' st σ) : GX p l e room_1 s m args below meth c Q D cA ad 7 cells slots pc lv st σ := by
  intro H locs ls hP hS hl
  refine k H locs ls hP hS (lv_less hl (fun q hq => ?_))
  obtain ⟨v, h1, h2, h3⟩ := lvL_mem.mp hq
  exact lvL_mem.mpr ⟨v, h _ _ h1 h2, h2, h3⟩
theorem gx_scrL {k : Nat} {kk0 : Int} (hX : LX p s m args c D cA ad b L xs) (hv0 : lv[0]? = some (.ref 5000)) (hv4 : lv[4]? = some (.int (iI i))) (hi : i + 8 ≤ L) (hk : k < 8) (hkk : kk0 = k) (d0 : decode cL_law pc = .ok (.aload_n 0, 1)) (d1 : decode cL_law (pc + 1) = .ok (.iload 4, 2)) (d3 : decode cL_law (pc + 3) = .ok (.iconst kk0, 1)) (d4 : decode cL_law (pc + 4) = .ok (.iadd, 1)) (d5 : decode cL_law (pc + 5) = .ok (.iaload, 1))
    (kk : GX p l e room_1 s m args below meth c Q D cA ad 7 cells slots (pc + 6) lv (.int (iI (xs (i + k)).toInt) :: st) σ) : GX p l e room_1 s m args below meth c Q D cA ad 7 cells slots pc lv st σ := by
  obtain ⟨hB, h1, h2, h3, h4, h5⟩ := hX
  subst hkk
  refine gx_aload_n hB d0 hv0 ?_
  refine gx_iload hB d1 hv4 ?_
  refine gx_iconst (v := iI k) hB d3 rfl ?_
  refine gx_iadd hB d4 ?_
  rw [iI_add]
  refine gx_sld hB h1 h2 h3 h4 (vp_iI ⟨by omega, by omega⟩ (by omega)) d5 ?_
  rw [iI_cl (by omega), show ((i : Int) + (k : Int)).toNat = i + k by omega]
  rw [iI_of] at kk
  exact kk
set_option maxRecDepth 100000 in
theorem wsLP_good : GoodIn tb (va_wsS RL 42 yL_pond wsLP) := by
  intro w hw
  have h1 : w ∈ tb := by
    rcases List.mem_append.mp hw with h | h
    · simp only [List.mem_cons, List.not_mem_nil, or_false] at h
      rcases h with rfl | rfl | rfl
      · exact tb_t 1115 (by decide +kernel) (by decide +kernel)
      · exact tb_t 1116 (by decide +kernel) (by decide +kernel)
      · exact tb_t 0 (by decide +kernel) (by decide +kernel)
    · rcases List.mem_cons.mp h with rfl | h
      · exact tb_t 1117 rfl (by decide +kernel)
      · exact h
  exact ⟨h1, good_of_word (List.mem_filter.mp h1).2⟩
theorem gx_pond {x y : Int} {rest : List Value} {K' : Option Value → AS → Prop} (hX : LX p s m args c D cA ad b L xs) (hT : CxT ad s s.heap) (hcs : cells + 1 ≤ room_1.cells ∧ slots + 6 ≤ room_1.slots) (hd : decode cL_law pc = .ok (.invokestatic 42, 3)) (h8 : (rest.map fun v => v.category).sum ≤ 8) (hM : Met l yL_pond wsLP (rmP 11) (PcT D cA ad [.ref 0, .int (iI x), .int (iI y), .ref 133] σ) (Qk D cA ad K') 1 6 (oA ad)) (kk : ∀ r σ', K' r σ' → GX p l e room_1 s m args below meth c Q D cA ad 7 (cells + 1) (slots + 6) (pc + 3) lv (r.toList ++ rest) σ') : GX p l e room_1 s m args below meth c Q D cA ad 7 cells slots pc lv (.ref 133 :: .int (iI y) :: .int (iI x) :: .ref 0 :: rest) σ := by
  intro H locs ls hP hS hl
  obtain ⟨hx, hb, hml, hown, hts, hC⟩ := hX.1
  have hr := vx_runSW (e := e) (below := below) (meth := meth) (H := H) (locs := locs) (cells := cells) (slots := slots) (g := F0 m pc ls ((.ref 133 :: .int (iI y) :: .int (iI x) :: .ref 0 :: rest).map (cv ad))) (As := ([.ref 0, .int (iI x), .int (iI y), .ref 133] : List Value).map (cv ad)) (rest := rest.map (cv ad)) ⟨hx, hb, hml, hown, hts⟩ hM (vx_cwSW (R := room_1) 4 hts wsLP_good rfl rfl rfl (by decide +kernel) ⟨by decide, by decide⟩) ⟨PcT_blind, fun U hU hW => ⟨rfl, by rw [hU]; exact hP, by rw [hU]; exact (hC.warm hW).kept hS.2.1, by rw [hU]; exact (hT.warm hW).kept hS.2.1⟩⟩ rfl rfl hl.1 rfl (lv_room (by rw [cv_cats]; exact h8)) hd hcs
  intro T hTT XX
  obtain ⟨v, st₀, t, T', LL, h0, X', hL, e1, e2, ⟨⟨r, σ', hv, hp, hbb⟩, hz, hk⟩, hst⟩ := hr T hTT XX
  cases hv
  rw [h0] at hz hk
  have hq := kk r σ' hp T'.heap (locs ++ LL) ls (by rw [e1]; exact hbb) ⟨Nat.le_trans hS.1 (by rw [e1]; exact hz), fun q h1 h2 => by rw [e1, hk q (Nat.lt_of_lt_of_le h1 hS.1) h2]; exact hS.2.1 q h1 h2, fun q hq => by
      rcases List.mem_append.mp hq with h | h
      · exact hS.2.2 q h
      · exact hL q h⟩ hl
  obtain ⟨t2, a1, b1⟩ := hq T' rfl X'
  refine ⟨t2, hst t2 ?_, b1⟩
  cases r <;> exact a1
theorem CI_133 {f : Nat → Int64} (h : CI σ X) : CI (sL σ 133 f) X := h
theorem MI_133 {f : Nat → Int64} (h : MI σ X) : MI (sL σ 133 f) X := h
theorem RO_133 {f : Nat → Int64} (h : RO σ) : RO (sL σ 133 f) := h
theorem l133 {f : Nat → Int64} : (sL σ 133 f).2.1 133 = f := by simp [sL]
theorem LV_less {v w : Value} : ∀ (j : Nat) (u : Value), (LV i)[j]? = some u → u ≠ .null → ([.ref 5000, .ref 0, .ref 111, .ref 133, .int (iI i), v, w] : List Value)[j]? = some u
  | 0, _, h, _ => h
  | 1, _, h, _ => h
  | 2, _, h, _ => h
  | 3, _, h, _ => h
  | 4, _, h, _ => h
  | 5, _, h, n => absurd (Option.some.inj h).symm n
  | 6, _, h, n => absurd (Option.some.inj h).symm n
  | _ + 7, _, h, _ => by simp at h
theorem lw_c5 (hl : l.stackTraces = false) (hX : LX p s m args c D cA ad b L xs) (hT : CxT ad s s.heap) (hcs : cells + 1 ≤ room_1.cells ∧ slots + 6 ≤ room_1.slots) (hi : i + 8 ≤ L) (hR : RO σ) (hK0 : XK X) (hC : CI σ X) (hM : MI σ X) (hk : ∀ (X : XS) (μ : AS), RO μ → XK X → CI μ X → MI μ X → GX p l e room_1 s m args below meth c Q D cA ad 7 (cells + 1) (slots + 6) 1645 (LV i) [] μ) : GX p l e room_1 s m args below meth c Q D cA ad 7 cells slots 405 (LV i) [] σ := by
  refine gx_aload_n hX.1 dL_law_405 rfl ?_
  refine gx_scr (k := 1) hX hi (by decide) rfl dL_law_406 dL_law_407 dL_law_409 dL_law_410 dL_law_411 ?_
  refine gx_scr (k := 2) hX hi (by decide) rfl dL_law_412 dL_law_413 dL_law_415 dL_law_416 dL_law_417 ?_
  refine gx_aload_n hX.1 dL_law_418 rfl ?_
  by_cases hok : pondK X (xs (i + 1)).toInt (xs (i + 2)).toInt
  · refine gx_pond (K' := fun r τ => r = some (.int (iI 0)) ∧ τ = sL σ 133 (vp_updL (σ.2.1 133) 0 (iI (pondA X (xs (i + 1)).toInt (xs (i + 2)).toInt)).toInt64)) hX hT hcs dL_law_419 (Nat.le_of_ble_eq_true rfl) (ct_L_pond hl hR hK0 hC (r32 _) (r32 _) (fun _ => ⟨rfl, rfl⟩) (fun h => absurd hok h)) (fun r τ hrt => ?_)
    obtain ⟨rfl, rfl⟩ := hrt
    have hR1 : RO (sL σ 133 (vp_updL (σ.2.1 133) 0 (iI (pondA X (xs (i + 1)).toInt (xs (i + 2)).toInt)).toInt64)) := hR
    have hC1 : CI (sL σ 133 (vp_updL (σ.2.1 133) 0 (iI (pondA X (xs (i + 1)).toInt (xs (i + 2)).toInt)).toInt64)) X := CI_133 hC
    have hM1 : MI (sL σ 133 (vp_updL (σ.2.1 133) 0 (iI (pondA X (xs (i + 1)).toInt (xs (i + 2)).toInt)).toInt64)) X := MI_133 hM
    have h133 : (sL σ 133 (vp_updL (σ.2.1 133) 0 (iI (pondA X (xs (i + 1)).toInt (xs (i + 2)).toInt)).toInt64)).2.1 133 0 = (iI (pondA X (xs (i + 1)).toInt (xs (i + 2)).toInt)).toInt64 := by rw [l133]; simp [vp_updL]
    generalize sL σ 133 (vp_updL (σ.2.1 133) 0 (iI (pondA X (xs (i + 1)).toInt (xs (i + 2)).toInt)).toInt64) = τ at hR1 hC1 hM1 h133 ⊢
    refine gx_istore hX.1 dL_law_422 (by decide) rfl ?_
    refine gx_aload_n hX.1 dL_law_424 rfl ?_
    refine gx_scrL (k := 1) hX rfl rfl hi (by decide) rfl dL_law_425 dL_law_426 dL_law_428 dL_law_429 dL_law_430 ?_
    refine gx_scrL (k := 2) hX rfl rfl hi (by decide) rfl dL_law_431 dL_law_432 dL_law_434 dL_law_435 dL_law_436 ?_
    refine gx_callV (d := 40) (as := [_, _]) hX.1 ⟨by decide, by decide, hcs.1, hcs.2⟩ wL_47 dL_law_437 rfl rfl rfl rfl (Nat.le_of_ble_eq_true rfl) (ct_X12_pond hR1 hK0 hM1 (r32 _) (r32 _) (fun _ μ fd he => ?_) (fun h => absurd hok h))
    refine gx_istore hX.1 dL_law_440 (by decide) rfl ?_
    refine gx_aload_n hX.1 dL_law_442 rfl ?_
    refine gx_callV (d := 40) (as := []) hX.1 ⟨by decide, by decide, hcs.1, hcs.2⟩ wL_48 dL_law_443 rfl rfl rfl rfl (Nat.le_of_ble_eq_true rfl) (ct_X12_thrown ?_)
    rw [he]
    refine gx_iload hX.1 dL_law_446 rfl ?_
    refine gx_icmp_eq (tgt := 453) hX.1 dL_law_448 (by decide) (fun _ => ?_) (fun h => absurd rfl h)
    refine gx_iload hX.1 dL_law_453 rfl ?_
    refine gx_if_ne (tgt := 470) hX.1 dL_law_455 (by decide) (fun h => absurd rfl h) (fun _ => ?_)
    refine gx_aload_n hX.1 dL_law_458 rfl ?_
    refine gx_iconst (v := iI 0) hX.1 dL_law_459 (by decide) ?_
    refine gx_lald hX.1 dL_law_460 rfl (vp_iI (by decide)) ?_
    rw [show (iI 0).toNatClampNeg = 0 by decide, fd.1.2.1 133 (by decide) (by decide), h133]
    refine gx_iload hX.1 dL_law_461 rfl ?_
    refine gx_i2l hX.1 dL_law_463 ?_
    refine gx_lcmp hX.1 dL_law_464 ?_
    refine gx_if_eq (tgt := 470) hX.1 dL_law_465 (by decide) (fun _ => ?_) (fun h => absurd (by simp [lg_cmp]) h)
    refine gx_goto (tgt := 1645) hX.1 dL_law_470 (by decide) ?_
    refine gx_less (lv' := LV i) LV_less ?_
    exact hk X μ (fd.RO hR1) hK0 (hC1.m hK0 fd.1) (hM1.q hK0 fd)
  · refine gx_pond (K' := fun r τ => r = some (.int (iI 1)) ∧ τ = σ) hX hT hcs dL_law_419 (Nat.le_of_ble_eq_true rfl) (ct_L_pond hl hR hK0 hC (r32 _) (r32 _) (fun h => absurd h hok) (fun _ => ⟨rfl, rfl⟩)) (fun r τ hrt => ?_)
    obtain ⟨rfl, rfl⟩ := hrt
    refine gx_istore hX.1 dL_law_422 (by decide) rfl ?_
    refine gx_aload_n hX.1 dL_law_424 rfl ?_
    refine gx_scrL (k := 1) hX rfl rfl hi (by decide) rfl dL_law_425 dL_law_426 dL_law_428 dL_law_429 dL_law_430 ?_
    refine gx_scrL (k := 2) hX rfl rfl hi (by decide) rfl dL_law_431 dL_law_432 dL_law_434 dL_law_435 dL_law_436 ?_
    refine gx_callV (d := 40) (as := [_, _]) hX.1 ⟨by decide, by decide, hcs.1, hcs.2⟩ wL_47 dL_law_437 rfl rfl rfl rfl (Nat.le_of_ble_eq_true rfl) (ct_X12_pond hR hK0 hM (r32 _) (r32 _) (fun h => absurd h hok) (fun _ μ fd he => ?_))
    refine gx_istore hX.1 dL_law_440 (by decide) rfl ?_
    refine gx_aload_n hX.1 dL_law_442 rfl ?_
    refine gx_callV (d := 40) (as := []) hX.1 ⟨by decide, by decide, hcs.1, hcs.2⟩ wL_48 dL_law_443 rfl rfl rfl rfl (Nat.le_of_ble_eq_true rfl) (ct_X12_thrown ?_)
    rw [he]
    refine gx_iload hX.1 dL_law_446 rfl ?_
    refine gx_icmp_eq (tgt := 453) hX.1 dL_law_448 (by decide) (fun _ => ?_) (fun h => absurd rfl h)
    refine gx_iload hX.1 dL_law_453 rfl ?_
    refine gx_if_ne (tgt := 470) hX.1 dL_law_455 (by decide) (fun _ => ?_) (fun h => absurd h (by decide))
    refine gx_goto (tgt := 1645) hX.1 dL_law_470 (by decide) ?_
    refine gx_less (lv' := LV i) LV_less ?_
    exact hk X μ (fd.RO hR) hK0 (hC.m hK0 fd.1) (hM.q hK0 fd)
end LAW
