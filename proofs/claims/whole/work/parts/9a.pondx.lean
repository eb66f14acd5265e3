/-! the class's pond where it throws, the law's own pond, which catches -/
abbrev pE : String := "java/util/NoSuchElementException"
abbrev pEs : List String := ["java/lang/RuntimeException", "java/lang/Exception"]
def nbT : List Cond := [.castable pE pE, .declares ⟨"java/lang/RuntimeException", "<init>", "()V"⟩, .declares ⟨"java/lang/Exception", "<init>", "()V"⟩, .declares ⟨"java/lang/Throwable", "<init>", "()V"⟩]
theorem pA_in : ∀ w ∈ vx_at0 RX11 148 pE pEs, w ∈ lw_tbl := by decide +kernel
theorem pA_bad : ∀ w ∈ (vx_at0 RX11 148 pE pEs).filter (fun w => !goodWord w), w ∈ nbT := by decide +kernel
theorem pA_ot : ∀ w ∈ Cond.classLink RX11 146 pE :: Cond.initialized pE :: vx_at0 RX11 148 pE pEs, vx_ot w = true := by decide +kernel
def CxT (ad : Nat → Nat) (U : State) (H : Heap) : Prop := (∀ w ∈ nbT, va_Nw w U) ∧ vx_Zq Bundle.tN "UNASSIGNED_STACK" Bundle.steD (oA ad) U H ∧ vx_Zq Bundle.tN "SUPPRESSED_SENTINEL" Bundle.listD (oA ad) U H
theorem CxT.warm {ad : Nat → Nat} {s U : State} {H : Heap} (hW : s.WarmedH U.vm) (h : CxT ad s H) : CxT ad U H := by
  refine ⟨fun w hw => ?_, vx_Zq.moved hW.alike h.2.1, vx_Zq.moved hW.alike h.2.2⟩
  have h1 := h.1 w hw
  simp only [nbT, List.mem_cons, List.not_mem_nil, or_false] at hw
  rcases hw with rfl | rfl | rfl | rfl
  · exact va_Nw.warmC hW h1
  · exact va_Nw.warmD hW h1
  · exact va_Nw.warmD hW h1
  · exact va_Nw.warmD hW h1
theorem CxT.same {ad : Nat → Nat} {u U : State} {H : Heap} (hv : U.vm = u.vm) (h : CxT ad u H) : CxT ad U H := by
  have ha : u.vm.Alike U.vm := by rw [hv]; exact Vm.Alike.refl u.vm
  refine ⟨fun w hw => ?_, vx_Zq.moved ha h.2.1, vx_Zq.moved ha h.2.2⟩
  have h1 := h.1 w hw
  simp only [nbT, List.mem_cons, List.not_mem_nil, or_false] at hw
  rcases hw with rfl | rfl | rfl | rfl <;> exact va_tabs rfl hv.symm h1
theorem CxT.kept {ad : Nat → Nat} {U : State} {H H1 : Heap} (h : CxT ad U H) (hq : ∀ a : Nat, a < H.size → ¬ oA ad a → H1[a]? = H[a]?) : CxT ad U H1 := ⟨h.1, h.2.1.kept hq, h.2.2.kept hq⟩
def rmP (d : Nat) : Room := { frames := d, cells := 1, slots := 6, locals := 40 * d }
def PcT (D : va_G) (cA ad : Nat → Nat) (as : List Value) (σ : AS) : Array Value → State → Prop := va_Pc (as.map (cv ad)) (fun U => va_P D cls (wsA ad cA σ) U.heap ∧ Cx D cA ad U U.heap ∧ CxT ad U U.heap)
theorem PcT_blind {D : va_G} {cA ad : Nat → Nat} {σ : AS} {as : List Value} : FrameBlind (PcT D cA ad as σ) := fun a U g mk q => ⟨q.1, q.2.1, Cx.same (u := U) rfl q.2.2.1, CxT.same (u := U) rfl q.2.2.2⟩
theorem gx_entry {p : Program} {l : Launch} {e : Env} {R : Room} {s : State} {m : MethodId} {args : Array Value} {below : List Frame} {meth : Method} {c : Code} {Q : State → Prop} {D : va_G} {cA ad : Nat → Nat} {nL : Nat} {σ : AS} {as : List Value} (hn : (lvX as).length ≤ nL) (hP : va_P D cls (wsA ad cA σ) s.heap) (k : GX p l e R s m args below meth c Q D cA ad nL 0 0 0 (lvE nL as) [] σ) : W p l e R s m args below meth c s.heap [] 0 0 Q (entryFrame m (as.map (cv ad)).toArray nL) := by
  rw [lg_entry_eq]
  have hl := lv_entry (as.map (cv ad)) (n := nL) (by rw [lvX_len]; exact hn)
  refine k s.heap [] _ hP va_S.rf (lv_less hl ?_)
  rintro ⟨i, w⟩ hq
  obtain ⟨v, h1, h2, h3⟩ := lvL_mem.mp hq
  dsimp only at h1 h3
  subst h3
  unfold lvE at h1
  by_cases hi : i < (lvX as).length
  · rw [List.getElem?_append_left hi] at h1
    have := lvX_args (ad := ad) as 0 i v h1 h2
    rwa [Nat.zero_add] at this
  · rw [List.getElem?_append_right (Nat.not_lt.mp hi), List.getElem?_replicate] at h1
    split at h1
    · exact absurd (Option.some.inj h1).symm h2
    · cases h1
abbrev XCp (D : va_G) (cA ad : Nat → Nat) (σ : AS) : String → State → State → Prop := vx_X (fun _ : Unit => True) (fun E _ t => E = pE ∧ va_P D cls (wsA ad cA σ) t.heap) (oA ad)
theorem ct_pondX {l : Launch} {D : va_G} {cA ad : Nat → Nat} {σ : AS} {X : XS} {p w : Int} (hl : l.stackTraces = false) (hR : RO σ) (hK0 : XK X) (hC : CI σ X) (hp32 : -2147483648 ≤ p ∧ p < 2147483648) (hw32 : -2147483648 ≤ w ∧ w < 2147483648) (hno : ¬ pondK X p w) : vx_Met l yX11_pond (wsM mX11_pond) (rmP 9) (PcT D cA ad [.ref 0, .int (iI p), .int (iI w)] σ) (fun _ _ _ _ => False) (XCp D cA ad σ) 1 6 (oA ad) := by
  refine vx_ofW (cc := cX11_pond) (maxL := 3) (ret := some .int) (by decide) rfl ?_
  intro pp e s m args below meth c s₁ B hml hnt hv
  obtain ⟨rfl, hP, hCx, hCT⟩ := hv
  have hts := atoms_spec (ws := wsM mX11_pond) B.pre
  have hB : BX pp s m (([.ref 0, .int (iI p), .int (iI w)] : List Value).map (cv ad)).toArray c D cA ad RX11 cX11_pond 3 := ⟨B.exec, B.bytes, hml, findClass_of_methodNamed B.named, fun w hw => hts w (List.mem_cons_of_mem _ hw), hCx⟩
  refine gx_entry (Nat.le_of_ble_eq_true rfl) hP ?_
  have thr : ∀ lv, GX pp l e (rmP 9) s m (([.ref 0, .int (iI p), .int (iI w)] : List Value).map (cv ad)).toArray below meth c (vx_MQ below (fun _ _ _ _ => False) (XCp D cA ad σ) (([.ref 0, .int (iI p), .int (iI w)] : List Value).map (cv ad)).toArray s 1 6 (oA ad)) D cA ad 3 0 0 21 lv [] σ := by
    intro lv H locs ls hP hS hls
    have hlocks := B.notSynchronized
    refine vx_throw0 (names := pEs) B.exec B.bytes hl hB.2.2.2.1 (by decide +kernel) (by decide +kernel) (hB.2.2.2.2.1 _ (tb_t 1123 (by decide +kernel) (by decide +kernel))) (hB.2.2.2.2.1 _ (tb_t 24 (by decide +kernel) (by decide +kernel))) ?_ pA_ot hCT.2.1 hCT.2.2 hS (hls.1.trans hml.symm) dX11_pond_21 dX11_pond_24 dX11_pond_25 dX11_pond_28 (fun x hx => (hnt x hx).elim) (by decide) (Nat.le_of_ble_eq_true rfl) (by decide) (by decide) hlocks ?_ hS.2.2 (by decide) (by decide)
    · refine vx_hat (B := nbT) (fun w hw => ?_) pA_bad (fun w hw => ?_)
      · obtain ⟨h1, h2⟩ := List.mem_filter.mp hw
        exact hB.2.2.2.2.1 w (tb_in (pA_in w h1) h2)
      · have h1 := hCT.1 w hw
        simp only [nbT, List.mem_cons, List.not_mem_nil, or_false] at hw
        rcases hw with rfl | rfl | rfl | rfl <;> exact va_Nw.use rfl h1
    · intro t _ hz hk
      refine ⟨(), trivial, ⟨rfl, hP.kept (fun k x hx => hk _ (hP k x hx).lt)⟩, Nat.le_trans hS.1 hz, fun q h1 h2 => ?_⟩
      rw [hk q (Nat.lt_of_lt_of_le h1 hS.1)]
      exact hS.2.1 q h1 h2
  show GX pp l e (rmP 9) s m (([.ref 0, .int (iI p), .int (iI w)] : List Value).map (cv ad)).toArray below meth c (vx_MQ below (fun _ _ _ _ => False) (XCp D cA ad σ) (([.ref 0, .int (iI p), .int (iI w)] : List Value).map (cv ad)).toArray s 1 6 (oA ad)) D cA ad 3 0 0 0 [.ref 0, .int (iI p), .int (iI w)] [] σ
  have hP7 := hK0.s.1
  refine gx_aload_n hB dX11_pond_0 rfl ?_
  refine gx_getR hB fX11_19 dX11_pond_1 rfl (hR _ _ _ rfl) ?_
  refine gx_iload_n hB dX11_pond_4 rfl ?_
  refine gx_callV (d := 0) (as := [_]) hB ⟨by decide, by decide, by decide, by decide⟩ wX11_142 dX11_pond_5 rfl rfl rfl rfl (Nat.le_of_ble_eq_true rfl) (ct_hasPond2 hp32 hC.2.1 hK0.s (fun i hie hil => ?_) (fun hx => ?_))
  rotate_left
  · refine gx_if_eq (tgt := 21) hB dX11_pond_8 (by decide) (fun h8 => ?_) (fun h8 => absurd rfl h8)
    exact thr _
  subst hie
  refine gx_if_eq (tgt := 21) hB dX11_pond_8 (by decide) (fun h8 => absurd h8 (by decide)) (fun h8 => ?_)
  refine gx_iload_n hB dX11_pond_11 rfl ?_
  refine gx_if_lt (tgt := 21) hB dX11_pond_12 (by decide) (fun h12 => thr _) (fun h12 => ?_)
  rw [iI_lt0 (by omega)] at h12
  refine gx_iload_n hB dX11_pond_15 rfl ?_
  refine gx_bipush (v := iI 9) hB dX11_pond_16 (by decide) ?_
  refine gx_icmp_le (tgt := 29) hB dX11_pond_18 (by decide) (fun h18 => ?_) (fun h18 => thr _)
  rw [iI_le (by omega)] at h18
  exact absurd ⟨by omega, by omega, by omega⟩ hno
