theorem dL_pond_0 : decode cL_pond 0 = .ok (.aload_n 3, 1) := by decide +kernel
theorem dL_pond_1 : decode cL_pond 1 = .ok (.iconst 0, 1) := by decide +kernel
theorem dL_pond_2 : decode cL_pond 2 = .ok (.aload_n 0, 1) := by decide +kernel
theorem dL_pond_3 : decode cL_pond 3 = .ok (.iload_n 1, 1) := by decide +kernel
theorem dL_pond_4 : decode cL_pond 4 = .ok (.iload_n 2, 1) := by decide +kernel
theorem dL_pond_5 : decode cL_pond 5 = .ok (.invokevirtual 7, 3) := by decide +kernel
theorem dL_pond_8 : decode cL_pond 8 = .ok (.i2l, 1) := by decide +kernel
theorem dL_pond_9 : decode cL_pond 9 = .ok (.lastore, 1) := by decide +kernel
theorem dL_pond_10 : decode cL_pond 10 = .ok (.goto 7, 3) := by decide +kernel
theorem dL_pond_13 : decode cL_pond 13 = .ok (.astore 4, 2) := by decide +kernel
theorem dL_pond_15 : decode cL_pond 15 = .ok (.iconst 1, 1) := by decide +kernel
theorem dL_pond_16 : decode cL_pond 16 = .ok (.ireturn, 1) := by decide +kernel
theorem dL_pond_17 : decode cL_pond 17 = .ok (.iconst 0, 1) := by decide +kernel
theorem dL_pond_18 : decode cL_pond 18 = .ok (.ireturn, 1) := by decide +kernel
theorem wL_7 : cV RL 7 mX11_pond 2 := ⟨⟨tb_t 1119 (by decide +kernel) (by decide +kernel), kX11_pond.1, kX11_pond.2.1, kX11_pond.2.2.1, kX11_pond.2.2.2⟩, vX11_pond⟩
def wsLP : List Cond := .codeWith yL_pond cL_pond 5 (some .int) [(0, 10, 13, 13)] :: tb
theorem ct_L_pond {l : Launch} {D : va_G} {cA ad : Nat → Nat} {σ : AS} {X : XS} {p w : Int} {K : Option Value → AS → Prop} (hl : l.stackTraces = false) (hR : RO σ) (hK0 : XK X) (hC : CI σ X) (hp32 : -2147483648 ≤ p ∧ p < 2147483648) (hw32 : -2147483648 ≤ w ∧ w < 2147483648)
    (hK1 : pondK X p w → K (some (.int (iI 0))) (sL σ 133 (vp_updL (σ.2.1 133) 0 (iI (pondA X p w)).toInt64))) (hK2 : ¬ pondK X p w → K (some (.int (iI 1))) σ) : Met l yL_pond wsLP (rmP 11) (PcT D cA ad [.ref 0, .int (iI p), .int (iI w), .ref 133] σ) (Qk D cA ad K) 1 6 (oA ad) := by
  refine va_MetW (cc := cL_pond) (maxL := 5) (ret := some .int) (hh := [(0, 10, 13, 13)]) (by decide) rfl ?_
  intro pp e s m args below meth c s₁ B hml hv
  obtain ⟨rfl, hP, hCx, hCT⟩ := hv
  have hts := atoms_spec (ws := wsLP) B.pre
  have hB : BX pp s m (([.ref 0, .int (iI p), .int (iI w), .ref 133] : List Value).map (cv ad)).toArray c D cA ad RL cL_pond 5 := ⟨B.exec, B.bytes, hml, findClass_of_methodNamed B.named, fun w hw => hts w (List.mem_cons_of_mem _ hw), hCx⟩
  have hlocks := B.notSynchronized
  have htab : c.exceptionTable.toList = tableOf [(0, 10, 13, 13)] := vx_table (x := yL_pond) B (hts _ List.mem_cons_self)
  have hret : ∀ (pc : Nat) (v : Int32) (τ : AS) (H : Heap) (locs : List Loc) (ls : Array Slot) (c0 s0 : Nat), decode cL_pond pc = .ok (.ireturn, 1) → K (some (.int v)) τ → va_P D cls (wsA ad cA τ) H → va_S (oA ad) s.heap H locs → c0 ≤ 1 → s0 ≤ 6 → W pp l e (rmP 11) s m (([.ref 0, .int (iI p), .int (iI w), .ref 133] : List Value).map (cv ad)).toArray below meth c H locs c0 s0 (MQ below (Qk D cA ad K) (([.ref 0, .int (iI p), .int (iI w), .ref 133] : List Value).map (cv ad)).toArray s 1 6 (oA ad)) (F0 m pc ls [.int v]) := by
    intro pc v τ H locs ls c0 s0 hd hk hP hS h1 h2
    refine W.widen h1 h2 ?_
    exact W.zret B.exec B.bytes B.returns rfl (fun t ht hW => ⟨⟨some (.int v), τ, rfl, hk, by rw [ht]; exact hP⟩, hS.F ht⟩) hS.2.2 hd
  refine gx_entry (Nat.le_of_ble_eq_true rfl) hP ?_
  show GX pp l e (rmP 11) s m (([.ref 0, .int (iI p), .int (iI w), .ref 133] : List Value).map (cv ad)).toArray below meth c (MQ below (Qk D cA ad K) (([.ref 0, .int (iI p), .int (iI w), .ref 133] : List Value).map (cv ad)).toArray s 1 6 (oA ad)) D cA ad 5 0 0 0 [.ref 0, .int (iI p), .int (iI w), .ref 133, .null] [] σ
  refine gx_aload_n hB dL_pond_0 rfl ?_
  refine gx_iconst (v := iI 0) hB dL_pond_1 (by decide) ?_
  refine gx_aload_n hB dL_pond_2 rfl ?_
  refine gx_iload_n hB dL_pond_3 rfl ?_
  refine gx_iload_n hB dL_pond_4 rfl ?_
  by_cases hok : pondK X p w
  · refine gx_callV (d := 1) (as := [_, _]) hB ⟨by decide, by decide, by decide, by decide⟩ wL_7 dL_pond_5 rfl rfl rfl rfl (Nat.le_of_ble_eq_true rfl) (ct_X11_pond hR hK0 hC hp32 hok ?_)
    refine gx_i2l hB dL_pond_8 ?_
    refine gx_last hB dL_pond_9 rfl (vp_iI (by decide)) ?_
    refine gx_goto (tgt := 17) hB dL_pond_10 (by decide) ?_
    refine gx_iconst (v := iI 0) hB dL_pond_17 (by decide) ?_
    intro H locs ls hP hS hls
    exact hret 18 (iI 0) _ H locs ls 0 0 dL_pond_18 (hK1 hok) hP hS (by decide) (by decide)
  · intro H locs ls hP hS hls
    have hrec := va_recv hCx.1 hP (show cls[11]? = some (RX11, TX11, 19) from rfl) (wsA_get (show sh[0]? = some (0, 11) from rfl))
    have hcb : CallB (rmP 11) s (([.ref 0, .int (iI p), .int (iI w), .ref 133] : List Value).map (cv ad)).toArray RL 7 yX11_pond cX11_pond 3 (some .int) (wsM mX11_pond) (rmP 9) 1 6 2 :=
      callB_of 2 hB.2.2.2.2.1 (tb_good wL_7.1.2.2.1) rfl rfl rfl (hB.2.2.2.2.1 _ wL_7.1.2.1) (hB.2.2.2.2.1 _ wL_7.1.1) wL_7.1.2.2.2.1 ⟨by decide, by decide⟩
    have hrun := vx_runV (e := e) (below := below) (meth := meth) (C := RX11) (b := ad 0) (As := [.int (iI p), .int (iI w)]) (rest := [.int (iI 0), .ref (ad 133)]) (g := F0 m 5 ls ([.int (iI w), .int (iI p), .ref 0, .int (iI 0), .ref 133].map (cv ad))) (H := H) (locs := locs) (cells := 0) (slots := 0) ⟨B.exec, B.bytes, hml, hB.2.2.2.1, hB.2.2.2.2.1⟩ (ct_pondX (ad := ad) (D := D) (cA := cA) hl hR hK0 hC hp32 hw32 hok) ⟨hcb, hB.2.2.2.2.1 _ wL_7.2.1, hB.2.2.2.2.1 _ wL_7.2.2⟩ ⟨PcT_blind, hrec, fun U hU hW => ⟨rfl, by rw [hU]; exact hP, by rw [hU]; exact (hCx.warm hW).kept hS.2.1, by rw [hU]; exact (hCT.warm hW).kept hS.2.1⟩⟩ rfl rfl hls.1 rfl (Nat.le_of_ble_eq_true rfl) dL_pond_5 ⟨by decide, by decide⟩
    intro T hT XX
    rcases hrun T hT XX with ⟨v, st₀, t, T', L, h0, X', hL, e1, e2, hq, hst⟩ | ⟨q, st₀, t, T', L, E, ce, h0, X', hL, e1, e2, hxc, hce, hvm, hcl, hst⟩
    · exact hq.elim
    · obtain ⟨u, -, ⟨rfl, hP1⟩, hz, hk⟩ := hxc
      rw [h0] at hz hk
      have hS1 : va_S (oA ad) s.heap T'.heap (locs ++ L) := ⟨Nat.le_trans hS.1 (by rw [e1]; exact hz), fun q h1 h2 => by rw [e1, hk q (Nat.lt_of_lt_of_le h1 hS.1) h2]; exact hS.2.1 q h1 h2, fun q hq => by
        rcases List.mem_append.mp hq with h | h
        · exact hS.2.2 q h
        · exact hL q h⟩
      have hW : vx_W pp l e (rmP 11) s m (([.ref 0, .int (iI p), .int (iI w), .ref 133] : List Value).map (cv ad)).toArray below meth c T'.heap (locs ++ L) (0 + 1) (0 + 6) (MQ below (Qk D cA ad K) (([.ref 0, .int (iI p), .int (iI w), .ref 133] : List Value).map (cv ad)).toArray s 1 6 (oA ad)) (F0 m 5 ls [.int (iI 0), .ref (ad 133)]) q := by
        refine mx_catch (own := RL) (name := pE) (E := pE) (ce := ce) hB.2.2.2.1 { startPc := 0, endPc := 10, handlerPc := 13, catchType := 13 } [] (by rw [htab]; rfl) (by decide) (by decide) (hB.2.2.2.2.1 _ (tb_t 1118 (by decide +kernel) (by decide +kernel))) (va_Nw.use rfl (hCT.1 _ List.mem_cons_self)) (by rw [e1]; exact hce) hvm hcl ?_
        refine lv_astore B.exec B.bytes dL_pond_13 hls (by decide) rfl (fun ls2 hl2 => ?_)
        refine lv_iconst (v := iI 1) B.exec B.bytes dL_pond_15 (by decide) ?_
        exact hret 16 (iI 1) σ T'.heap (locs ++ L) ls2 1 6 dL_pond_16 (hK2 hok) (by rw [e1]; exact hP1) hS1 (by decide) (by decide)
      obtain ⟨t2, a1, b1⟩ := hW T' rfl X'
      exact ⟨t2, hst.trans a1, b1⟩
