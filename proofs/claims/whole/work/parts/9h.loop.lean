/-! the law's loop -/
section LAW
variable {p : Program} {l : Launch} {e : Env} {s : State} {m : MethodId} {args : Array Value} {below : List Frame} {meth : Method} {c : Code} {Q : State → Prop} {D : va_G} {cA ad : Nat → Nat} {b L : Nat} {xs : Nat → Int32}
theorem LV_8 (i : Nat) : (LV i).set 4 (.int (iI i + Int32.ofInt 8)) = LV (i + 8) := by
  rw [show Int32.ofInt 8 = iI 8 from rfl, iI_add]
  rfl
theorem law_loop (hl : l.stackTraces = false) (hX : LX p s m args c D cA ad b L xs) (hT : CxT ad s s.heap) (hend : ∀ (cells slots i : Nat) (σ : AS), cells ≤ room_1.cells → slots ≤ room_1.slots → GX p l e room_1 s m args below meth c Q D cA ad 7 cells slots 1651 (LV i) [] σ) : ∀ (n i cells slots : Nat) (X : XS) (σ : AS), L ≤ i + 8 * n → i ≤ 4104 → cells ≤ 1000 + i → slots ≤ 200000 + 6 * i → RO σ → XK X → CI σ X → MI σ X → GX p l e room_1 s m args below meth c Q D cA ad 7 cells slots 23 (LV i) [] σ := by
  intro n
  induction n with
  | zero =>
    intro i cells slots X σ hn hi4 hc hs hR hK0 hC hM
    have hL := hX.2.2.2.2.2
    have hcs : cells ≤ room_1.cells ∧ slots ≤ room_1.slots := ⟨by show cells ≤ 601024; omega, by show slots ≤ 7293034; omega⟩
    refine gx_iload hX.1 dL_law_23 rfl ?_
    refine gx_aload_n hX.1 dL_law_25 rfl ?_
    refine gx_slen hX.1 hX.2.1 hX.2.2.1 hX.2.2.2.1 hX.2.2.2.2.1 dL_law_26 ?_
    refine gx_bipush (v := iI 8) hX.1 dL_law_27 (by decide) ?_
    refine gx_isub hX.1 dL_law_29 ?_
    rw [iI_ofNat, iI_sub]
    refine gx_icmp_gt (tgt := 1651) hX.1 dL_law_30 (by decide) (fun _ => hend cells slots i σ hcs.1 hcs.2) (fun h => ?_)
    rw [iI_lt ⟨⟨by omega, by omega⟩, by omega, by omega⟩] at h
    omega
  | succ n ih =>
    intro i cells slots X σ hn hi4 hc hs hR hK0 hC hM
    have hL := hX.2.2.2.2.2
    have hcs : cells ≤ room_1.cells ∧ slots ≤ room_1.slots := ⟨by show cells ≤ 601024; omega, by show slots ≤ 7293034; omega⟩
    have hcs1 : cells + 1 ≤ room_1.cells ∧ slots + 6 ≤ room_1.slots := ⟨by show cells + 1 ≤ 601024; omega, by show slots + 6 ≤ 7293034; omega⟩
    refine gx_iload hX.1 dL_law_23 rfl ?_
    refine gx_aload_n hX.1 dL_law_25 rfl ?_
    refine gx_slen hX.1 hX.2.1 hX.2.2.1 hX.2.2.2.1 hX.2.2.2.2.1 dL_law_26 ?_
    refine gx_bipush (v := iI 8) hX.1 dL_law_27 (by decide) ?_
    refine gx_isub hX.1 dL_law_29 ?_
    rw [iI_ofNat, iI_sub]
    refine gx_icmp_gt (tgt := 1651) hX.1 dL_law_30 (by decide) (fun _ => hend cells slots i σ hcs.1 hcs.2) (fun h => ?_)
    rw [iI_lt ⟨⟨by omega, by omega⟩, by omega, by omega⟩] at h
    have hi : i + 8 ≤ L := by omega
    have nx : ∀ (cells slots : Nat) (X : XS) (μ : AS), cells ≤ 1000 + (i + 8) → slots ≤ 200000 + 6 * (i + 8) → RO μ → XK X → CI μ X → MI μ X → GX p l e room_1 s m args below meth c Q D cA ad 7 cells slots 1645 (LV i) [] μ := by
      intro cells slots X μ h1 h2 h3 h4 h5 h6
      refine gx_iinc hX.1 dL_law_1645 rfl (by decide) rfl ?_
      rw [LV_8]
      refine gx_goto (tgt := 23) hX.1 dL_law_1648 (by decide) ?_
      exact ih (i + 8) cells slots X μ (by omega) (by omega) h1 h2 h3 h4 h5 h6
    have nx0 := fun (X : XS) (μ : AS) => nx cells slots X μ (by omega) (by omega)
    have nx1 := fun (X : XS) (μ : AS) => nx (cells + 1) (slots + 6) X μ (by omega) (by omega)
    refine gx_aload_n hX.1 dL_law_33 rfl ?_
    refine gx_iload hX.1 dL_law_34 rfl ?_
    refine gx_sld hX.1 hX.2.1 hX.2.2.1 hX.2.2.2.1 hX.2.2.2.2.1 (vp_iI ⟨by omega, by omega⟩ (by omega)) dL_law_36 ?_
    refine gx_bipush (v := iI 63) hX.1 dL_law_37 (by decide) ?_
    refine gx_iand hX.1 dL_law_39 ?_
    generalize xs ((iI i).toNatClampNeg) &&& iI 63 = v
    by_cases hin : 0 ≤ v.toInt ∧ v.toInt ≤ 43
    · have hor : v.toInt = 0 ∨ v.toInt = 1 ∨ v.toInt = 2 ∨ v.toInt = 3 ∨ v.toInt = 4 ∨ v.toInt = 5 ∨ v.toInt = 6 ∨ v.toInt = 7 ∨ v.toInt = 8 ∨ v.toInt = 9 ∨ v.toInt = 10 ∨ v.toInt = 11 ∨ v.toInt = 12 ∨ v.toInt = 13 ∨ v.toInt = 14 ∨ v.toInt = 15 ∨ v.toInt = 16 ∨ v.toInt = 17 ∨ v.toInt = 18 ∨ v.toInt = 19 ∨ v.toInt = 20 ∨ v.toInt = 21 ∨ v.toInt = 22 ∨ v.toInt = 23 ∨ v.toInt = 24 ∨ v.toInt = 25 ∨ v.toInt = 26 ∨ v.toInt = 27 ∨ v.toInt = 28 ∨ v.toInt = 29 ∨ v.toInt = 30 ∨ v.toInt = 31 ∨ v.toInt = 32 ∨ v.toInt = 33 ∨ v.toInt = 34 ∨ v.toInt = 35 ∨ v.toInt = 36 ∨ v.toInt = 37 ∨ v.toInt = 38 ∨ v.toInt = 39 ∨ v.toInt = 40 ∨ v.toInt = 41 ∨ v.toInt = 42 ∨ v.toInt = 43 := by omega
      rcases hor with h | h | h | h | h | h | h | h | h | h | h | h | h | h | h | h | h | h | h | h | h | h | h | h | h | h | h | h | h | h | h | h | h | h | h | h | h | h | h | h | h | h | h | h
      · exact gx_tabIn (off := 192) (tgt := 232) hX.1 dL_law_40 (by rw [h]; decide) (by rw [h]; decide) (by rw [h]; decide) (by decide) (lw_c0 hX hcs hi hR hK0 hC hM nx0)
      · exact gx_tabIn (off := 265) (tgt := 305) hX.1 dL_law_40 (by rw [h]; decide) (by rw [h]; decide) (by rw [h]; decide) (by decide) (lw_c1 hX hcs hi hR hK0 hC hM nx0)
      · exact gx_tabIn (off := 290) (tgt := 330) hX.1 dL_law_40 (by rw [h]; decide) (by rw [h]; decide) (by rw [h]; decide) (by decide) (lw_c2 hX hcs hi hR hK0 hC hM nx0)
      · exact gx_tabIn (off := 315) (tgt := 355) hX.1 dL_law_40 (by rw [h]; decide) (by rw [h]; decide) (by rw [h]; decide) (by decide) (lw_c3 hX hcs hi hR hK0 hC hM nx0)
      · exact gx_tabIn (off := 340) (tgt := 380) hX.1 dL_law_40 (by rw [h]; decide) (by rw [h]; decide) (by rw [h]; decide) (by decide) (lw_c4 hX hcs hi hR hK0 hC hM nx0)
      · exact gx_tabIn (off := 365) (tgt := 405) hX.1 dL_law_40 (by rw [h]; decide) (by rw [h]; decide) (by rw [h]; decide) (by decide) (lw_c5 hl hX hT hcs1 hi hR hK0 hC hM nx1)
      · exact gx_tabIn (off := 433) (tgt := 473) hX.1 dL_law_40 (by rw [h]; decide) (by rw [h]; decide) (by rw [h]; decide) (by decide) (lw_c6 hX hcs hi hR hK0 hC hM nx0)
      · exact gx_tabIn (off := 470) (tgt := 510) hX.1 dL_law_40 (by rw [h]; decide) (by rw [h]; decide) (by rw [h]; decide) (by decide) (lw_c7 hX hcs hi hR hK0 hC hM nx0)
      · exact gx_tabIn (off := 495) (tgt := 535) hX.1 dL_law_40 (by rw [h]; decide) (by rw [h]; decide) (by rw [h]; decide) (by decide) (lw_c8 hX hcs hi hR hK0 hC hM nx0)
      · exact gx_tabIn (off := 532) (tgt := 572) hX.1 dL_law_40 (by rw [h]; decide) (by rw [h]; decide) (by rw [h]; decide) (by decide) (lw_c9 hX hcs hi hR hK0 hC hM nx0)
      · exact gx_tabIn (off := 585) (tgt := 625) hX.1 dL_law_40 (by rw [h]; decide) (by rw [h]; decide) (by rw [h]; decide) (by decide) (lw_c10 hX hcs hi hR hK0 hC hM nx0)
      · exact gx_tabIn (off := 622) (tgt := 662) hX.1 dL_law_40 (by rw [h]; decide) (by rw [h]; decide) (by rw [h]; decide) (by decide) (lw_c11 hX hcs hi hR hK0 hC hM nx0)
      · exact gx_tabIn (off := 659) (tgt := 699) hX.1 dL_law_40 (by rw [h]; decide) (by rw [h]; decide) (by rw [h]; decide) (by decide) (lw_c12 hX hcs hi hR hK0 hC hM nx0)
      · exact gx_tabIn (off := 684) (tgt := 724) hX.1 dL_law_40 (by rw [h]; decide) (by rw [h]; decide) (by rw [h]; decide) (by decide) (lw_c13 hX hcs hi hR hK0 hC hM nx0)
      · exact gx_tabIn (off := 753) (tgt := 793) hX.1 dL_law_40 (by rw [h]; decide) (by rw [h]; decide) (by rw [h]; decide) (by decide) (lw_c14 hX hcs hi hR hK0 hC hM nx0)
      · exact gx_tabIn (off := 766) (tgt := 806) hX.1 dL_law_40 (by rw [h]; decide) (by rw [h]; decide) (by rw [h]; decide) (by decide) (lw_c15 hX hcs hi hR hK0 hC hM nx0)
      · exact gx_tabIn (off := 803) (tgt := 843) hX.1 dL_law_40 (by rw [h]; decide) (by rw [h]; decide) (by rw [h]; decide) (by decide) (lw_c16 hX hcs hi hR hK0 hC hM nx0)
      · exact gx_tabIn (off := 852) (tgt := 892) hX.1 dL_law_40 (by rw [h]; decide) (by rw [h]; decide) (by rw [h]; decide) (by decide) (lw_c17 hX hcs hi hR hK0 hC hM nx0)
      · exact gx_tabIn (off := 889) (tgt := 929) hX.1 dL_law_40 (by rw [h]; decide) (by rw [h]; decide) (by rw [h]; decide) (by decide) (lw_c18 hX hcs hi hR hK0 hC hM nx0)
      · exact gx_tabIn (off := 914) (tgt := 954) hX.1 dL_law_40 (by rw [h]; decide) (by rw [h]; decide) (by rw [h]; decide) (by decide) (lw_c19 hX hcs hi hR hK0 hC hM nx0)
      · exact gx_tabIn (off := 951) (tgt := 991) hX.1 dL_law_40 (by rw [h]; decide) (by rw [h]; decide) (by rw [h]; decide) (by decide) (lw_c20 hX hcs hi hR hK0 hC hM nx0)
      · exact gx_tabIn (off := 976) (tgt := 1016) hX.1 dL_law_40 (by rw [h]; decide) (by rw [h]; decide) (by rw [h]; decide) (by decide) (lw_c21 hX hcs hi hR hK0 hC hM nx0)
      · exact gx_tabIn (off := 989) (tgt := 1029) hX.1 dL_law_40 (by rw [h]; decide) (by rw [h]; decide) (by rw [h]; decide) (by decide) (lw_c22 hX hcs hi hR hK0 hC hM nx0)
      · exact gx_tabIn (off := 1014) (tgt := 1054) hX.1 dL_law_40 (by rw [h]; decide) (by rw [h]; decide) (by rw [h]; decide) (by decide) (lw_c23 hX hcs hi hR hK0 hC hM nx0)
      · exact gx_tabIn (off := 1051) (tgt := 1091) hX.1 dL_law_40 (by rw [h]; decide) (by rw [h]; decide) (by rw [h]; decide) (by decide) (lw_c24 hX hcs hi hR hK0 hC hM nx0)
      · exact gx_tabIn (off := 1076) (tgt := 1116) hX.1 dL_law_40 (by rw [h]; decide) (by rw [h]; decide) (by rw [h]; decide) (by decide) (lw_c25 hX hcs hi hR hK0 hC hM nx0)
      · exact gx_tabIn (off := 1101) (tgt := 1141) hX.1 dL_law_40 (by rw [h]; decide) (by rw [h]; decide) (by rw [h]; decide) (by decide) (lw_c26 hX hcs hi hR hK0 hC hM nx0)
      · exact gx_tabIn (off := 1126) (tgt := 1166) hX.1 dL_law_40 (by rw [h]; decide) (by rw [h]; decide) (by rw [h]; decide) (by decide) (lw_c27 hX hcs hi hR hK0 hC hM nx0)
      · exact gx_tabIn (off := 1139) (tgt := 1179) hX.1 dL_law_40 (by rw [h]; decide) (by rw [h]; decide) (by rw [h]; decide) (by decide) (lw_c28 hX hcs hi hR hK0 hC hM nx0)
      · exact gx_tabIn (off := 1176) (tgt := 1216) hX.1 dL_law_40 (by rw [h]; decide) (by rw [h]; decide) (by rw [h]; decide) (by decide) (lw_c29 hX hcs hi hR hK0 hC hM nx0)
      · exact gx_tabIn (off := 1201) (tgt := 1241) hX.1 dL_law_40 (by rw [h]; decide) (by rw [h]; decide) (by rw [h]; decide) (by decide) (lw_c30 hX hcs hi hR hK0 hC hM nx0)
      · exact gx_tabIn (off := 1214) (tgt := 1254) hX.1 dL_law_40 (by rw [h]; decide) (by rw [h]; decide) (by rw [h]; decide) (by decide) (lw_c31 hX hcs hi hR hK0 hC hM nx0)
      · exact gx_tabIn (off := 1227) (tgt := 1267) hX.1 dL_law_40 (by rw [h]; decide) (by rw [h]; decide) (by rw [h]; decide) (by decide) (lw_c32 hX hcs hi hR hK0 hC hM nx0)
      · exact gx_tabIn (off := 1328) (tgt := 1368) hX.1 dL_law_40 (by rw [h]; decide) (by rw [h]; decide) (by rw [h]; decide) (by decide) (lw_c33 hX hcs hi hR hK0 hC hM nx0)
      · exact gx_tabIn (off := 1415) (tgt := 1455) hX.1 dL_law_40 (by rw [h]; decide) (by rw [h]; decide) (by rw [h]; decide) (by decide) (lw_c34 hX hcs hi hR hK0 hC hM nx0)
      · exact gx_tabIn (off := 1440) (tgt := 1480) hX.1 dL_law_40 (by rw [h]; decide) (by rw [h]; decide) (by rw [h]; decide) (by decide) (lw_c35 hX hcs hi hR hK0 hC hM nx0)
      · exact gx_tabIn (off := 1453) (tgt := 1493) hX.1 dL_law_40 (by rw [h]; decide) (by rw [h]; decide) (by rw [h]; decide) (by decide) (lw_c36 hX hcs hi hR hK0 hC hM nx0)
      · exact gx_tabIn (off := 1478) (tgt := 1518) hX.1 dL_law_40 (by rw [h]; decide) (by rw [h]; decide) (by rw [h]; decide) (by decide) (lw_c37 hX hcs hi hR hK0 hC hM nx0)
      · exact gx_tabIn (off := 1503) (tgt := 1543) hX.1 dL_law_40 (by rw [h]; decide) (by rw [h]; decide) (by rw [h]; decide) (by decide) (lw_c38 hX hcs hi hR hK0 hC hM nx0)
      · exact gx_tabIn (off := 1516) (tgt := 1556) hX.1 dL_law_40 (by rw [h]; decide) (by rw [h]; decide) (by rw [h]; decide) (by decide) (lw_c39 hX hcs hi hR hK0 hC hM nx0)
      · exact gx_tabIn (off := 1529) (tgt := 1569) hX.1 dL_law_40 (by rw [h]; decide) (by rw [h]; decide) (by rw [h]; decide) (by decide) (lw_c40 hX hcs hi hR hK0 hC hM nx0)
      · exact gx_tabIn (off := 1554) (tgt := 1594) hX.1 dL_law_40 (by rw [h]; decide) (by rw [h]; decide) (by rw [h]; decide) (by decide) (lw_c41 hX hcs hi hR hK0 hC hM nx0)
      · exact gx_tabIn (off := 1567) (tgt := 1607) hX.1 dL_law_40 (by rw [h]; decide) (by rw [h]; decide) (by rw [h]; decide) (by decide) (lw_c42 hX hcs hi hR hK0 hC hM nx0)
      · exact gx_tabIn (off := 1580) (tgt := 1620) hX.1 dL_law_40 (by rw [h]; decide) (by rw [h]; decide) (by rw [h]; decide) (by decide) (lw_c43 hX hcs hi hR hK0 hC hM nx0)
    · exact gx_tabOut (tgt := 1645) hX.1 dL_law_40 (by omega) (by decide) (nx0 X σ hR hK0 hC hM)
end LAW
