/-! the law's walk: the script, the calls -/
abbrev LV (i : Nat) : List Value := [.ref 5000, .ref 0, .ref 111, .ref 133, .int (iI i), .null, .null]
def LX (p : Program) (s : State) (m : MethodId) (args : Array Value) (c : Code) (D : va_G) (cA ad : Nat → Nat) (b L : Nat) (xs : Nat → Int32) : Prop := BX p s m args c D cA ad RL cL_law 7 ∧ va_X b L xs s s.heap ∧ b < s.heap.size ∧ ¬ oA ad b ∧ ad 5000 = b ∧ L ≤ 4096
theorem r32 (x : Int32) : -2147483648 ≤ x.toInt ∧ x.toInt < 2147483648 := by
  have h1 := Int32.le_toInt x
  have h2 := Int32.toInt_lt x
  exact ⟨by omega, by omega⟩
section LAW
variable {p : Program} {l : Launch} {e : Env} {s : State} {m : MethodId} {args : Array Value} {below : List Frame} {meth : Method} {c : Code} {Q : State → Prop} {D : va_G} {cA ad : Nat → Nat} {cells slots pc : Nat} {st : List Value} {σ : AS} {b L i : Nat} {xs : Nat → Int32} {X : XS}
theorem gx_scr {k : Nat} {kk0 : Int} (hX : LX p s m args c D cA ad b L xs) (hi : i + 8 ≤ L) (hk : k < 8) (hkk : kk0 = k) (d0 : decode cL_law pc = .ok (.aload_n 0, 1)) (d1 : decode cL_law (pc + 1) = .ok (.iload 4, 2)) (d3 : decode cL_law (pc + 3) = .ok (.iconst kk0, 1)) (d4 : decode cL_law (pc + 4) = .ok (.iadd, 1)) (d5 : decode cL_law (pc + 5) = .ok (.iaload, 1))
    (kk : GX p l e room_1 s m args below meth c Q D cA ad 7 cells slots (pc + 6) (LV i) (.int (iI (xs (i + k)).toInt) :: st) σ) : GX p l e room_1 s m args below meth c Q D cA ad 7 cells slots pc (LV i) st σ := by
  obtain ⟨hB, h1, h2, h3, h4, h5⟩ := hX
  subst hkk
  refine gx_aload_n hB d0 rfl ?_
  refine gx_iload hB d1 rfl ?_
  refine gx_iconst (v := iI k) hB d3 rfl ?_
  refine gx_iadd hB d4 ?_
  rw [iI_add]
  refine gx_sld hB h1 h2 h3 h4 (vp_iI ⟨by omega, by omega⟩ (by omega)) d5 ?_
  rw [iI_cl (by omega), show ((i : Int) + (k : Int)).toNat = i + k by omega]
  rw [iI_of] at kk
  exact kk
theorem gx_scrB {k : Nat} {kk0 : Int} (hX : LX p s m args c D cA ad b L xs) (hi : i + 8 ≤ L) (hk : k < 8) (hkk : kk0 = k) (d0 : decode cL_law pc = .ok (.aload_n 0, 1)) (d1 : decode cL_law (pc + 1) = .ok (.iload 4, 2)) (d3 : decode cL_law (pc + 3) = .ok (.bipush kk0, 2)) (d4 : decode cL_law (pc + 5) = .ok (.iadd, 1)) (d5 : decode cL_law (pc + 6) = .ok (.iaload, 1))
    (kk : GX p l e room_1 s m args below meth c Q D cA ad 7 cells slots (pc + 7) (LV i) (.int (iI (xs (i + k)).toInt) :: st) σ) : GX p l e room_1 s m args below meth c Q D cA ad 7 cells slots pc (LV i) st σ := by
  obtain ⟨hB, h1, h2, h3, h4, h5⟩ := hX
  subst hkk
  refine gx_aload_n hB d0 rfl ?_
  refine gx_iload hB d1 rfl ?_
  refine gx_bipush (v := iI k) hB d3 (by rcases (show k = 0 ∨ k = 1 ∨ k = 2 ∨ k = 3 ∨ k = 4 ∨ k = 5 ∨ k = 6 ∨ k = 7 by omega) with rfl | rfl | rfl | rfl | rfl | rfl | rfl | rfl <;> decide) ?_
  refine gx_iadd hB d4 ?_
  rw [iI_add]
  refine gx_sld hB h1 h2 h3 h4 (vp_iI ⟨by omega, by omega⟩ (by omega)) d5 ?_
  rw [iI_cl (by omega), show ((i : Int) + (k : Int)).toNat = i + k by omega]
  rw [iI_of] at kk
  exact kk
end LAW
theorem wL_19 : cV RL 19 mX11_feed 5 := ⟨⟨tb_t 386 (by decide +kernel) (by decide +kernel), kX11_feed.1, kX11_feed.2.1, kX11_feed.2.2.1, kX11_feed.2.2.2⟩, vX11_feed⟩
theorem wL_23 : cV RL 23 mX12_feed 5 := ⟨⟨tb_t 1342 (by decide +kernel) (by decide +kernel), kX12_feed.1, kX12_feed.2.1, kX12_feed.2.2.1, kX12_feed.2.2.2⟩, vX12_feed⟩
theorem wL_24 : cV RL 24 mX11_end 1 := ⟨⟨tb_t 397 (by decide +kernel) (by decide +kernel), kX11_end.1, kX11_end.2.1, kX11_end.2.2.1, kX11_end.2.2.2⟩, vX11_end⟩
theorem wL_28 : cV RL 28 mX12_end 1 := ⟨⟨tb_t 1353 (by decide +kernel) (by decide +kernel), kX12_end.1, kX12_end.2.1, kX12_end.2.2.1, kX12_end.2.2.2⟩, vX12_end⟩
theorem wL_29 : cV RL 29 mX11_fault 1 := ⟨⟨tb_t 401 (by decide +kernel) (by decide +kernel), kX11_fault.1, kX11_fault.2.1, kX11_fault.2.2.1, kX11_fault.2.2.2⟩, vX11_fault⟩
theorem wL_33 : cV RL 33 mX12_fault 1 := ⟨⟨tb_t 1357 (by decide +kernel) (by decide +kernel), kX12_fault.1, kX12_fault.2.1, kX12_fault.2.2.1, kX12_fault.2.2.2⟩, vX12_fault⟩
theorem wL_34 : cV RL 34 mX11_text 1 := ⟨⟨tb_t 629 (by decide +kernel) (by decide +kernel), kX11_text.1, kX11_text.2.1, kX11_text.2.2.1, kX11_text.2.2.2⟩, vX11_text⟩
theorem wL_37 : cV RL 37 mX12_text 1 := ⟨⟨tb_t 1518 (by decide +kernel) (by decide +kernel), kX12_text.1, kX12_text.2.1, kX12_text.2.2.1, kX12_text.2.2.2⟩, vX12_text⟩
theorem wL_38 : cV RL 38 mX11_sky 1 := ⟨⟨tb_t 668 (by decide +kernel) (by decide +kernel), kX11_sky.1, kX11_sky.2.1, kX11_sky.2.2.1, kX11_sky.2.2.2⟩, vX11_sky⟩
theorem wL_41 : cV RL 41 mX12_sky 1 := ⟨⟨tb_t 1527 (by decide +kernel) (by decide +kernel), kX12_sky.1, kX12_sky.2.1, kX12_sky.2.2.1, kX12_sky.2.2.2⟩, vX12_sky⟩
theorem wL_47 : cV RL 47 mX12_pond 2 := ⟨⟨tb_t 1531 (by decide +kernel) (by decide +kernel), kX12_pond.1, kX12_pond.2.1, kX12_pond.2.2.1, kX12_pond.2.2.2⟩, vX12_pond⟩
theorem wL_48 : cV RL 48 mX12_thrown 0 := ⟨⟨tb_t 1338 (by decide +kernel) (by decide +kernel), kX12_thrown.1, kX12_thrown.2.1, kX12_thrown.2.2.1, kX12_thrown.2.2.2⟩, vX12_thrown⟩
theorem wL_52 : cV RL 52 mX11_pipe 2 := ⟨⟨tb_t 673 (by decide +kernel) (by decide +kernel), kX11_pipe.1, kX11_pipe.2.1, kX11_pipe.2.2.1, kX11_pipe.2.2.2⟩, vX11_pipe⟩
theorem wL_55 : cV RL 55 mX12_pipe 2 := ⟨⟨tb_t 1547 (by decide +kernel) (by decide +kernel), kX12_pipe.1, kX12_pipe.2.1, kX12_pipe.2.2.1, kX12_pipe.2.2.2⟩, vX12_pipe⟩
theorem wL_56 : cV RL 56 mX11_law 1 := ⟨⟨tb_t 706 (by decide +kernel) (by decide +kernel), kX11_law.1, kX11_law.2.1, kX11_law.2.2.1, kX11_law.2.2.2⟩, vX11_law⟩
theorem wL_59 : cV RL 59 mX12_law 1 := ⟨⟨tb_t 1578 (by decide +kernel) (by decide +kernel), kX12_law.1, kX12_law.2.1, kX12_law.2.2.1, kX12_law.2.2.2⟩, vX12_law⟩
theorem wL_60 : cV RL 60 mX11_odds 2 := ⟨⟨tb_t 710 (by decide +kernel) (by decide +kernel), kX11_odds.1, kX11_odds.2.1, kX11_odds.2.2.1, kX11_odds.2.2.2⟩, vX11_odds⟩
theorem wL_64 : cV RL 64 mX12_odds 2 := ⟨⟨tb_t 1582 (by decide +kernel) (by decide +kernel), kX12_odds.1, kX12_odds.2.1, kX12_odds.2.2.1, kX12_odds.2.2.2⟩, vX12_odds⟩
theorem wL_65 : cV RL 65 mX11_key 2 := ⟨⟨tb_t 714 (by decide +kernel) (by decide +kernel), kX11_key.1, kX11_key.2.1, kX11_key.2.2.1, kX11_key.2.2.2⟩, vX11_key⟩
theorem wL_69 : cV RL 69 mX12_key 2 := ⟨⟨tb_t 1587 (by decide +kernel) (by decide +kernel), kX12_key.1, kX12_key.2.1, kX12_key.2.2.1, kX12_key.2.2.2⟩, vX12_key⟩
theorem wL_70 : cV RL 70 mX11_pour 2 := ⟨⟨tb_t 777 (by decide +kernel) (by decide +kernel), kX11_pour.1, kX11_pour.2.1, kX11_pour.2.2.1, kX11_pour.2.2.2⟩, vX11_pour⟩
theorem wL_73 : cV RL 73 mX12_pour 2 := ⟨⟨tb_t 1599 (by decide +kernel) (by decide +kernel), kX12_pour.1, kX12_pour.2.1, kX12_pour.2.2.1, kX12_pour.2.2.2⟩, vX12_pour⟩
theorem wL_74 : cV RL 74 mX11_stock 2 := ⟨⟨tb_t 781 (by decide +kernel) (by decide +kernel), kX11_stock.1, kX11_stock.2.1, kX11_stock.2.2.1, kX11_stock.2.2.2⟩, vX11_stock⟩
theorem wL_77 : cV RL 77 mX12_stock 2 := ⟨⟨tb_t 1607 (by decide +kernel) (by decide +kernel), kX12_stock.1, kX12_stock.2.1, kX12_stock.2.2.1, kX12_stock.2.2.2⟩, vX12_stock⟩
theorem wL_78 : cV RL 78 mX11_days 1 := ⟨⟨tb_t 786 (by decide +kernel) (by decide +kernel), kX11_days.1, kX11_days.2.1, kX11_days.2.2.1, kX11_days.2.2.2⟩, vX11_days⟩
theorem wL_81 : cV RL 81 mX12_days 1 := ⟨⟨tb_t 1611 (by decide +kernel) (by decide +kernel), kX12_days.1, kX12_days.2.1, kX12_days.2.2.1, kX12_days.2.2.2⟩, vX12_days⟩
theorem wL_84 : cV RL 84 mX11_years 2 := ⟨⟨tb_t 790 (by decide +kernel) (by decide +kernel), kX11_years.1, kX11_years.2.1, kX11_years.2.2.1, kX11_years.2.2.2⟩, vX11_years⟩
theorem wL_88 : cV RL 88 mX12_years 2 := ⟨⟨tb_t 1642 (by decide +kernel) (by decide +kernel), kX12_years.1, kX12_years.2.1, kX12_years.2.2.1, kX12_years.2.2.2⟩, vX12_years⟩
theorem wL_89 : cV RL 89 mX11_undo 0 := ⟨⟨tb_t 804 (by decide +kernel) (by decide +kernel), kX11_undo.1, kX11_undo.2.1, kX11_undo.2.2.1, kX11_undo.2.2.2⟩, vX11_undo⟩
theorem wL_92 : cV RL 92 mX12_undo 0 := ⟨⟨tb_t 1652 (by decide +kernel) (by decide +kernel), kX12_undo.1, kX12_undo.2.1, kX12_undo.2.2.1, kX12_undo.2.2.2⟩, vX12_undo⟩
theorem wL_93 : cV RL 93 mX11_log 2 := ⟨⟨tb_t 816 (by decide +kernel) (by decide +kernel), kX11_log.1, kX11_log.2.1, kX11_log.2.2.1, kX11_log.2.2.2⟩, vX11_log⟩
theorem wL_96 : cV RL 96 mX12_log 2 := ⟨⟨tb_t 1656 (by decide +kernel) (by decide +kernel), kX12_log.1, kX12_log.2.1, kX12_log.2.2.1, kX12_log.2.2.2⟩, vX12_log⟩
theorem wL_97 : cV RL 97 mX11_step 3 := ⟨⟨tb_t 829 (by decide +kernel) (by decide +kernel), kX11_step.1, kX11_step.2.1, kX11_step.2.2.1, kX11_step.2.2.2⟩, vX11_step⟩
theorem wL_101 : cV RL 101 mX12_step 3 := ⟨⟨tb_t 1660 (by decide +kernel) (by decide +kernel), kX12_step.1, kX12_step.2.1, kX12_step.2.2.1, kX12_step.2.2.2⟩, vX12_step⟩
theorem wL_102 : cV RL 102 mX11_run 2 := ⟨⟨tb_t 842 (by decide +kernel) (by decide +kernel), kX11_run.1, kX11_run.2.1, kX11_run.2.2.1, kX11_run.2.2.2⟩, vX11_run⟩
theorem wL_105 : cV RL 105 mX12_run 2 := ⟨⟨tb_t 1669 (by decide +kernel) (by decide +kernel), kX12_run.1, kX12_run.2.1, kX12_run.2.2.1, kX12_run.2.2.2⟩, vX12_run⟩
theorem wL_106 : cV RL 106 mX11_perform 1 := ⟨⟨tb_t 857 (by decide +kernel) (by decide +kernel), kX11_perform.1, kX11_perform.2.1, kX11_perform.2.2.1, kX11_perform.2.2.2⟩, vX11_perform⟩
theorem wL_109 : cV RL 109 mX12_perform 1 := ⟨⟨tb_t 1684 (by decide +kernel) (by decide +kernel), kX12_perform.1, kX12_perform.2.1, kX12_perform.2.2.1, kX12_perform.2.2.2⟩, vX12_perform⟩
theorem wL_110 : cV RL 110 mX11_ahead 2 := ⟨⟨tb_t 861 (by decide +kernel) (by decide +kernel), kX11_ahead.1, kX11_ahead.2.1, kX11_ahead.2.2.1, kX11_ahead.2.2.2⟩, vX11_ahead⟩
theorem wL_113 : cV RL 113 mX12_ahead 2 := ⟨⟨tb_t 1692 (by decide +kernel) (by decide +kernel), kX12_ahead.1, kX12_ahead.2.1, kX12_ahead.2.2.1, kX12_ahead.2.2.2⟩, vX12_ahead⟩
theorem wL_114 : cV RL 114 mX11_dries 1 := ⟨⟨tb_t 869 (by decide +kernel) (by decide +kernel), kX11_dries.1, kX11_dries.2.1, kX11_dries.2.2.1, kX11_dries.2.2.2⟩, vX11_dries⟩
theorem wL_117 : cV RL 117 mX12_dries 1 := ⟨⟨tb_t 1701 (by decide +kernel) (by decide +kernel), kX12_dries.1, kX12_dries.2.1, kX12_dries.2.2.1, kX12_dries.2.2.2⟩, vX12_dries⟩
theorem wL_118 : cV RL 118 mX11_bare 0 := ⟨⟨tb_t 877 (by decide +kernel) (by decide +kernel), kX11_bare.1, kX11_bare.2.1, kX11_bare.2.2.1, kX11_bare.2.2.2⟩, vX11_bare⟩
theorem wL_121 : cV RL 121 mX12_bare 0 := ⟨⟨tb_t 1705 (by decide +kernel) (by decide +kernel), kX12_bare.1, kX12_bare.2.1, kX12_bare.2.2.1, kX12_bare.2.2.2⟩, vX12_bare⟩
theorem wL_122 : cV RL 122 mX11_keys 1 := ⟨⟨tb_t 881 (by decide +kernel) (by decide +kernel), kX11_keys.1, kX11_keys.2.1, kX11_keys.2.2.1, kX11_keys.2.2.2⟩, vX11_keys⟩
theorem wL_125 : cV RL 125 mX12_keys 1 := ⟨⟨tb_t 1709 (by decide +kernel) (by decide +kernel), kX12_keys.1, kX12_keys.2.1, kX12_keys.2.2.1, kX12_keys.2.2.2⟩, vX12_keys⟩
theorem wL_126 : cV RL 126 mX11_kept 2 := ⟨⟨tb_t 904 (by decide +kernel) (by decide +kernel), kX11_kept.1, kX11_kept.2.1, kX11_kept.2.2.1, kX11_kept.2.2.2⟩, vX11_kept⟩
theorem wL_129 : cV RL 129 mX12_kept 2 := ⟨⟨tb_t 1718 (by decide +kernel) (by decide +kernel), kX12_kept.1, kX12_kept.2.1, kX12_kept.2.2.1, kX12_kept.2.2.2⟩, vX12_kept⟩
theorem wL_130 : cV RL 130 mX11_cut 1 := ⟨⟨tb_t 914 (by decide +kernel) (by decide +kernel), kX11_cut.1, kX11_cut.2.1, kX11_cut.2.2.1, kX11_cut.2.2.2⟩, vX11_cut⟩
theorem wL_133 : cV RL 133 mX12_cut 1 := ⟨⟨tb_t 1722 (by decide +kernel) (by decide +kernel), kX12_cut.1, kX12_cut.2.1, kX12_cut.2.2.1, kX12_cut.2.2.2⟩, vX12_cut⟩
theorem wL_134 : cV RL 134 mX11_rest 1 := ⟨⟨tb_t 926 (by decide +kernel) (by decide +kernel), kX11_rest.1, kX11_rest.2.1, kX11_rest.2.2.1, kX11_rest.2.2.2⟩, vX11_rest⟩
theorem wL_137 : cV RL 137 mX12_rest 1 := ⟨⟨tb_t 1726 (by decide +kernel) (by decide +kernel), kX12_rest.1, kX12_rest.2.1, kX12_rest.2.2.1, kX12_rest.2.2.2⟩, vX12_rest⟩
theorem wL_138 : cV RL 138 mX11_joined 1 := ⟨⟨tb_t 943 (by decide +kernel) (by decide +kernel), kX11_joined.1, kX11_joined.2.1, kX11_joined.2.2.1, kX11_joined.2.2.2⟩, vX11_joined⟩
theorem wL_141 : cV RL 141 mX12_joined 1 := ⟨⟨tb_t 1734 (by decide +kernel) (by decide +kernel), kX12_joined.1, kX12_joined.2.1, kX12_joined.2.2.1, kX12_joined.2.2.2⟩, vX12_joined⟩
theorem wL_142 : cV RL 142 mX11_apart 0 := ⟨⟨tb_t 948 (by decide +kernel) (by decide +kernel), kX11_apart.1, kX11_apart.2.1, kX11_apart.2.2.1, kX11_apart.2.2.2⟩, vX11_apart⟩
theorem wL_145 : cV RL 145 mX12_apart 0 := ⟨⟨tb_t 1738 (by decide +kernel) (by decide +kernel), kX12_apart.1, kX12_apart.2.1, kX12_apart.2.2.1, kX12_apart.2.2.2⟩, vX12_apart⟩
theorem wL_146 : cV RL 146 mX11_measured 2 := ⟨⟨tb_t 960 (by decide +kernel) (by decide +kernel), kX11_measured.1, kX11_measured.2.1, kX11_measured.2.2.1, kX11_measured.2.2.2⟩, vX11_measured⟩
theorem wL_149 : cV RL 149 mX12_measured 2 := ⟨⟨tb_t 1746 (by decide +kernel) (by decide +kernel), kX12_measured.1, kX12_measured.2.1, kX12_measured.2.2.1, kX12_measured.2.2.2⟩, vX12_measured⟩
theorem wL_150 : cV RL 150 mX11_secret 1 := ⟨⟨tb_t 968 (by decide +kernel) (by decide +kernel), kX11_secret.1, kX11_secret.2.1, kX11_secret.2.2.1, kX11_secret.2.2.2⟩, vX11_secret⟩
theorem wL_153 : cV RL 153 mX12_secret 1 := ⟨⟨tb_t 1751 (by decide +kernel) (by decide +kernel), kX12_secret.1, kX12_secret.2.1, kX12_secret.2.2.1, kX12_secret.2.2.2⟩, vX12_secret⟩
theorem wL_154 : cV RL 154 mX11_measure 0 := ⟨⟨tb_t 995 (by decide +kernel) (by decide +kernel), kX11_measure.1, kX11_measure.2.1, kX11_measure.2.2.1, kX11_measure.2.2.2⟩, vX11_measure⟩
theorem wL_157 : cV RL 157 mX12_measure 0 := ⟨⟨tb_t 1762 (by decide +kernel) (by decide +kernel), kX12_measure.1, kX12_measure.2.1, kX12_measure.2.2.1, kX12_measure.2.2.2⟩, vX12_measure⟩
theorem wL_158 : cV RL 158 mX11_walls 0 := ⟨⟨tb_t 1008 (by decide +kernel) (by decide +kernel), kX11_walls.1, kX11_walls.2.1, kX11_walls.2.2.1, kX11_walls.2.2.2⟩, vX11_walls⟩
theorem wL_161 : cV RL 161 mX12_walls 0 := ⟨⟨tb_t 1767 (by decide +kernel) (by decide +kernel), kX12_walls.1, kX12_walls.2.1, kX12_walls.2.2.1, kX12_walls.2.2.2⟩, vX12_walls⟩
theorem wL_162 : cV RL 162 mX11_feud 7 := ⟨⟨tb_t 1019 (by decide +kernel) (by decide +kernel), kX11_feud.1, kX11_feud.2.1, kX11_feud.2.2.1, kX11_feud.2.2.2⟩, vX11_feud⟩
theorem wL_166 : cV RL 166 mX12_feud 7 := ⟨⟨tb_t 1772 (by decide +kernel) (by decide +kernel), kX12_feud.1, kX12_feud.2.1, kX12_feud.2.2.1, kX12_feud.2.2.2⟩, vX12_feud⟩
theorem wL_167 : cV RL 167 mX11_rests 6 := ⟨⟨tb_t 1035 (by decide +kernel) (by decide +kernel), kX11_rests.1, kX11_rests.2.1, kX11_rests.2.2.1, kX11_rests.2.2.2⟩, vX11_rests⟩
theorem wL_171 : cV RL 171 mX12_rests 6 := ⟨⟨tb_t 1784 (by decide +kernel) (by decide +kernel), kX12_rests.1, kX12_rests.2.1, kX12_rests.2.2.1, kX12_rests.2.2.2⟩, vX12_rests⟩
theorem wL_172 : cV RL 172 mX11_reads 1 := ⟨⟨tb_t 1043 (by decide +kernel) (by decide +kernel), kX11_reads.1, kX11_reads.2.1, kX11_reads.2.2.1, kX11_reads.2.2.2⟩, vX11_reads⟩
theorem wL_175 : cV RL 175 mX12_reads 1 := ⟨⟨tb_t 1788 (by decide +kernel) (by decide +kernel), kX12_reads.1, kX12_reads.2.1, kX12_reads.2.2.1, kX12_reads.2.2.2⟩, vX12_reads⟩
theorem wL_176 : cV RL 176 mX11_darkest 0 := ⟨⟨tb_t 1051 (by decide +kernel) (by decide +kernel), kX11_darkest.1, kX11_darkest.2.1, kX11_darkest.2.2.1, kX11_darkest.2.2.2⟩, vX11_darkest⟩
theorem wL_179 : cV RL 179 mX12_darkest 0 := ⟨⟨tb_t 1792 (by decide +kernel) (by decide +kernel), kX12_darkest.1, kX12_darkest.2.1, kX12_darkest.2.2.1, kX12_darkest.2.2.2⟩, vX12_darkest⟩
theorem wL_180 : cV RL 180 mX11_rent 1 := ⟨⟨tb_t 1059 (by decide +kernel) (by decide +kernel), kX11_rent.1, kX11_rent.2.1, kX11_rent.2.2.1, kX11_rent.2.2.2⟩, vX11_rent⟩
theorem wL_183 : cV RL 183 mX12_rent 1 := ⟨⟨tb_t 1796 (by decide +kernel) (by decide +kernel), kX12_rent.1, kX12_rent.2.1, kX12_rent.2.2.1, kX12_rent.2.2.2⟩, vX12_rent⟩
theorem wL_184 : cV RL 184 mX11_trend 1 := ⟨⟨tb_t 1067 (by decide +kernel) (by decide +kernel), kX11_trend.1, kX11_trend.2.1, kX11_trend.2.2.1, kX11_trend.2.2.2⟩, vX11_trend⟩
theorem wL_187 : cV RL 187 mX12_trend 1 := ⟨⟨tb_t 1800 (by decide +kernel) (by decide +kernel), kX12_trend.1, kX12_trend.2.1, kX12_trend.2.2.1, kX12_trend.2.2.2⟩, vX12_trend⟩
theorem wL_188 : cV RL 188 mX11_shares 0 := ⟨⟨tb_t 1071 (by decide +kernel) (by decide +kernel), kX11_shares.1, kX11_shares.2.1, kX11_shares.2.2.1, kX11_shares.2.2.2⟩, vX11_shares⟩
theorem wL_191 : cV RL 191 mX12_shares 0 := ⟨⟨tb_t 1804 (by decide +kernel) (by decide +kernel), kX12_shares.1, kX12_shares.2.1, kX12_shares.2.2.1, kX12_shares.2.2.2⟩, vX12_shares⟩
theorem wL_192 : cV RL 192 mX11_largest 0 := ⟨⟨tb_t 1079 (by decide +kernel) (by decide +kernel), kX11_largest.1, kX11_largest.2.1, kX11_largest.2.2.1, kX11_largest.2.2.2⟩, vX11_largest⟩
theorem wL_195 : cV RL 195 mX12_largest 0 := ⟨⟨tb_t 1812 (by decide +kernel) (by decide +kernel), kX12_largest.1, kX12_largest.2.1, kX12_largest.2.2.1, kX12_largest.2.2.2⟩, vX12_largest⟩
theorem wL_196 : cV RL 196 mX11_eaten 1 := ⟨⟨tb_t 1088 (by decide +kernel) (by decide +kernel), kX11_eaten.1, kX11_eaten.2.1, kX11_eaten.2.2.1, kX11_eaten.2.2.2⟩, vX11_eaten⟩
theorem wL_199 : cV RL 199 mX12_eaten 1 := ⟨⟨tb_t 1816 (by decide +kernel) (by decide +kernel), kX12_eaten.1, kX12_eaten.2.1, kX12_eaten.2.2.1, kX12_eaten.2.2.2⟩, vX12_eaten⟩
theorem wL_200 : cV RL 200 mX11_image 0 := ⟨⟨tb_t 1092 (by decide +kernel) (by decide +kernel), kX11_image.1, kX11_image.2.1, kX11_image.2.2.1, kX11_image.2.2.2⟩, vX11_image⟩
theorem wL_203 : cV RL 203 mX12_image 0 := ⟨⟨tb_t 1820 (by decide +kernel) (by decide +kernel), kX12_image.1, kX12_image.2.1, kX12_image.2.2.1, kX12_image.2.2.2⟩, vX12_image⟩
theorem wL_204 : cV RL 204 mX11_back 0 := ⟨⟨tb_t 1102 (by decide +kernel) (by decide +kernel), kX11_back.1, kX11_back.2.1, kX11_back.2.2.1, kX11_back.2.2.2⟩, vX11_back⟩
theorem wL_207 : cV RL 207 mX12_back 0 := ⟨⟨tb_t 1824 (by decide +kernel) (by decide +kernel), kX12_back.1, kX12_back.2.1, kX12_back.2.2.1, kX12_back.2.2.2⟩, vX12_back⟩
theorem wL_208 : cV RL 208 mX11_count 1 := ⟨⟨tb_t 1106 (by decide +kernel) (by decide +kernel), kX11_count.1, kX11_count.2.1, kX11_count.2.2.1, kX11_count.2.2.2⟩, vX11_count⟩
theorem wL_211 : cV RL 211 mX12_count 1 := ⟨⟨tb_t 1828 (by decide +kernel) (by decide +kernel), kX12_count.1, kX12_count.2.1, kX12_count.2.2.1, kX12_count.2.2.2⟩, vX12_count⟩
