/-! the law's cases -/
section LAW
variable {p : Program} {l : Launch} {e : Env} {s : State} {m : MethodId} {args : Array Value} {below : List Frame} {meth : Method} {c : Code} {Q : State → Prop} {D : va_G} {cA ad : Nat → Nat} {cells slots pc : Nat} {st : List Value} {σ : AS} {b L i : Nat} {xs : Nat → Int32} {X : XS}
theorem lw_c0 (hX : LX p s m args c D cA ad b L xs) (hcs : cells ≤ room_1.cells ∧ slots ≤ room_1.slots) (hi : i + 8 ≤ L) (hR : RO σ) (hK0 : XK X) (hC : CI σ X) (hM : MI σ X) (hk : ∀ (X : XS) (μ : AS), RO μ → XK X → CI μ X → MI μ X → GX p l e room_1 s m args below meth c Q D cA ad 7 cells slots 1645 (LV i) [] μ) : GX p l e room_1 s m args below meth c Q D cA ad 7 cells slots 232 (LV i) [] σ := by
  refine gx_aload_n hX.1 dL_law_232 rfl ?_
  refine gx_scr (k := 1) hX hi (by decide) rfl dL_law_233 dL_law_234 dL_law_236 dL_law_237 dL_law_238 ?_
  refine gx_scr (k := 2) hX hi (by decide) rfl dL_law_239 dL_law_240 dL_law_242 dL_law_243 dL_law_244 ?_
  refine gx_scr (k := 3) hX hi (by decide) rfl dL_law_245 dL_law_246 dL_law_248 dL_law_249 dL_law_250 ?_
  refine gx_scr (k := 4) hX hi (by decide) rfl dL_law_251 dL_law_252 dL_law_254 dL_law_255 dL_law_256 ?_
  refine gx_scr (k := 5) hX hi (by decide) rfl dL_law_257 dL_law_258 dL_law_260 dL_law_261 dL_law_262 ?_
  refine gx_callV (d := 40) (as := [_, _, _, _, _]) hX.1 ⟨by decide, by decide, hcs.1, hcs.2⟩ wL_19 dL_law_263 rfl rfl rfl rfl (Nat.le_of_ble_eq_true rfl) (ct_feedC hR hK0 hC  (fun τ fr hC1 => ?_))
  have hR1 := fr.RO hR
  have hM1 := hM.c fr
  refine gx_aload_n hX.1 dL_law_266 rfl ?_
  refine gx_scr (k := 1) hX hi (by decide) rfl dL_law_267 dL_law_268 dL_law_270 dL_law_271 dL_law_272 ?_
  refine gx_scr (k := 2) hX hi (by decide) rfl dL_law_273 dL_law_274 dL_law_276 dL_law_277 dL_law_278 ?_
  refine gx_scr (k := 3) hX hi (by decide) rfl dL_law_279 dL_law_280 dL_law_282 dL_law_283 dL_law_284 ?_
  refine gx_scr (k := 4) hX hi (by decide) rfl dL_law_285 dL_law_286 dL_law_288 dL_law_289 dL_law_290 ?_
  refine gx_scr (k := 5) hX hi (by decide) rfl dL_law_291 dL_law_292 dL_law_294 dL_law_295 dL_law_296 ?_
  refine gx_callV (d := 40) (as := [_, _, _, _, _]) hX.1 ⟨by decide, by decide, hcs.1, hcs.2⟩ wL_23 dL_law_297 rfl rfl rfl rfl (Nat.le_of_ble_eq_true rfl) (ct_feedM hR1 hK0 hM1  (fun μ fd hM2 => ?_))
  refine gx_icmp_eq (tgt := 1645) hX.1 dL_law_300 (by decide) (fun _ => ?_) (fun h => absurd rfl h)
  exact hk _ μ (fd.RO hR1) (feedK hK0) (hC1.m (feedK hK0) fd) hM2
theorem lw_c1 (hX : LX p s m args c D cA ad b L xs) (hcs : cells ≤ room_1.cells ∧ slots ≤ room_1.slots) (hi : i + 8 ≤ L) (hR : RO σ) (hK0 : XK X) (hC : CI σ X) (hM : MI σ X) (hk : ∀ (X : XS) (μ : AS), RO μ → XK X → CI μ X → MI μ X → GX p l e room_1 s m args below meth c Q D cA ad 7 cells slots 1645 (LV i) [] μ) : GX p l e room_1 s m args below meth c Q D cA ad 7 cells slots 305 (LV i) [] σ := by
  refine gx_aload_n hX.1 dL_law_305 rfl ?_
  refine gx_scr (k := 1) hX hi (by decide) rfl dL_law_306 dL_law_307 dL_law_309 dL_law_310 dL_law_311 ?_
  refine gx_callV (d := 40) (as := [_]) hX.1 ⟨by decide, by decide, hcs.1, hcs.2⟩ wL_24 dL_law_312 rfl rfl rfl rfl (Nat.le_of_ble_eq_true rfl) (ct_endC hR hK0 hC (r32 _) (fun τ fr hC1 => ?_))
  have hR1 := fr.RO hR
  have hM1 := hM.c fr
  refine gx_aload_n hX.1 dL_law_315 rfl ?_
  refine gx_scr (k := 1) hX hi (by decide) rfl dL_law_316 dL_law_317 dL_law_319 dL_law_320 dL_law_321 ?_
  refine gx_callV (d := 40) (as := [_]) hX.1 ⟨by decide, by decide, hcs.1, hcs.2⟩ wL_28 dL_law_322 rfl rfl rfl rfl (Nat.le_of_ble_eq_true rfl) (ct_endM hR1 hK0 hM1 (r32 _) (fun μ fd hM2 => ?_))
  refine gx_icmp_eq (tgt := 1645) hX.1 dL_law_325 (by decide) (fun _ => ?_) (fun h => absurd rfl h)
  exact hk _ μ (fd.RO hR1) (endK hK0) (hC1.m (endK hK0) fd) hM2
theorem lw_c2 (hX : LX p s m args c D cA ad b L xs) (hcs : cells ≤ room_1.cells ∧ slots ≤ room_1.slots) (hi : i + 8 ≤ L) (hR : RO σ) (hK0 : XK X) (hC : CI σ X) (hM : MI σ X) (hk : ∀ (X : XS) (μ : AS), RO μ → XK X → CI μ X → MI μ X → GX p l e room_1 s m args below meth c Q D cA ad 7 cells slots 1645 (LV i) [] μ) : GX p l e room_1 s m args below meth c Q D cA ad 7 cells slots 330 (LV i) [] σ := by
  refine gx_aload_n hX.1 dL_law_330 rfl ?_
  refine gx_scr (k := 1) hX hi (by decide) rfl dL_law_331 dL_law_332 dL_law_334 dL_law_335 dL_law_336 ?_
  refine gx_callV (d := 40) (as := [_]) hX.1 ⟨by decide, by decide, hcs.1, hcs.2⟩ wL_29 dL_law_337 rfl rfl rfl rfl (Nat.le_of_ble_eq_true rfl) (ct_X11_fault hR hK0 hC (r32 _) (fun τ fr => ?_))
  have hR1 := fr.RO hR
  have hM1 := hM.c fr.fc
  have hC1 := hC.q hK0 fr
  refine gx_aload_n hX.1 dL_law_340 rfl ?_
  refine gx_scr (k := 1) hX hi (by decide) rfl dL_law_341 dL_law_342 dL_law_344 dL_law_345 dL_law_346 ?_
  refine gx_callV (d := 40) (as := [_]) hX.1 ⟨by decide, by decide, hcs.1, hcs.2⟩ wL_33 dL_law_347 rfl rfl rfl rfl (Nat.le_of_ble_eq_true rfl) (ct_X12_fault hR1 hK0 hM1 (r32 _) (fun μ fd => ?_))
  refine gx_icmp_eq (tgt := 1645) hX.1 dL_law_350 (by decide) (fun _ => ?_) (fun h => absurd rfl h)
  exact hk X μ (fd.RO hR1) hK0 (hC1.m hK0 fd.1) (hM1.q hK0 fd)
theorem lw_c3 (hX : LX p s m args c D cA ad b L xs) (hcs : cells ≤ room_1.cells ∧ slots ≤ room_1.slots) (hi : i + 8 ≤ L) (hR : RO σ) (hK0 : XK X) (hC : CI σ X) (hM : MI σ X) (hk : ∀ (X : XS) (μ : AS), RO μ → XK X → CI μ X → MI μ X → GX p l e room_1 s m args below meth c Q D cA ad 7 cells slots 1645 (LV i) [] μ) : GX p l e room_1 s m args below meth c Q D cA ad 7 cells slots 355 (LV i) [] σ := by
  refine gx_aload_n hX.1 dL_law_355 rfl ?_
  refine gx_scr (k := 1) hX hi (by decide) rfl dL_law_356 dL_law_357 dL_law_359 dL_law_360 dL_law_361 ?_
  refine gx_callV (d := 40) (as := [_]) hX.1 ⟨by decide, by decide, hcs.1, hcs.2⟩ wL_34 dL_law_362 rfl rfl rfl rfl (Nat.le_of_ble_eq_true rfl) (ct_X11_text hR hK0 hC (r32 _) (fun τ fr hC1 hK1 => ?_))
  have hR1 := fr.RO hR
  have hM1 := hM.c fr
  refine gx_aload_n hX.1 dL_law_365 rfl ?_
  refine gx_scr (k := 1) hX hi (by decide) rfl dL_law_366 dL_law_367 dL_law_369 dL_law_370 dL_law_371 ?_
  refine gx_callV (d := 40) (as := [_]) hX.1 ⟨by decide, by decide, hcs.1, hcs.2⟩ wL_37 dL_law_372 rfl rfl rfl rfl (Nat.le_of_ble_eq_true rfl) (ct_X12_text hR1 hK0 hM1 (r32 _) (fun μ fd hM2 => ?_))
  refine gx_icmp_eq (tgt := 1645) hX.1 dL_law_375 (by decide) (fun _ => ?_) (fun h => absurd rfl h)
  exact hk _ μ (fd.RO hR1) hK1 (hC1.m hK1 fd) hM2
theorem lw_c4 (hX : LX p s m args c D cA ad b L xs) (hcs : cells ≤ room_1.cells ∧ slots ≤ room_1.slots) (hi : i + 8 ≤ L) (hR : RO σ) (hK0 : XK X) (hC : CI σ X) (hM : MI σ X) (hk : ∀ (X : XS) (μ : AS), RO μ → XK X → CI μ X → MI μ X → GX p l e room_1 s m args below meth c Q D cA ad 7 cells slots 1645 (LV i) [] μ) : GX p l e room_1 s m args below meth c Q D cA ad 7 cells slots 380 (LV i) [] σ := by
  refine gx_aload_n hX.1 dL_law_380 rfl ?_
  refine gx_scr (k := 1) hX hi (by decide) rfl dL_law_381 dL_law_382 dL_law_384 dL_law_385 dL_law_386 ?_
  refine gx_callV (d := 40) (as := [_]) hX.1 ⟨by decide, by decide, hcs.1, hcs.2⟩ wL_38 dL_law_387 rfl rfl rfl rfl (Nat.le_of_ble_eq_true rfl) (ct_X11_sky hR hK0 hC (r32 _) (fun τ fr => ?_))
  have hR1 := fr.RO hR
  have hM1 := hM.c fr.fc
  have hC1 := hC.q hK0 fr
  refine gx_aload_n hX.1 dL_law_390 rfl ?_
  refine gx_scr (k := 1) hX hi (by decide) rfl dL_law_391 dL_law_392 dL_law_394 dL_law_395 dL_law_396 ?_
  refine gx_callV (d := 40) (as := [_]) hX.1 ⟨by decide, by decide, hcs.1, hcs.2⟩ wL_41 dL_law_397 rfl rfl rfl rfl (Nat.le_of_ble_eq_true rfl) (ct_X12_sky hR1 hK0 hM1 (r32 _) (fun μ fd => ?_))
  refine gx_icmp_eq (tgt := 1645) hX.1 dL_law_400 (by decide) (fun _ => ?_) (fun h => absurd rfl h)
  exact hk X μ (fd.RO hR1) hK0 (hC1.m hK0 fd.1) (hM1.q hK0 fd)
theorem lw_c6 (hX : LX p s m args c D cA ad b L xs) (hcs : cells ≤ room_1.cells ∧ slots ≤ room_1.slots) (hi : i + 8 ≤ L) (hR : RO σ) (hK0 : XK X) (hC : CI σ X) (hM : MI σ X) (hk : ∀ (X : XS) (μ : AS), RO μ → XK X → CI μ X → MI μ X → GX p l e room_1 s m args below meth c Q D cA ad 7 cells slots 1645 (LV i) [] μ) : GX p l e room_1 s m args below meth c Q D cA ad 7 cells slots 473 (LV i) [] σ := by
  refine gx_aload_n hX.1 dL_law_473 rfl ?_
  refine gx_scr (k := 1) hX hi (by decide) rfl dL_law_474 dL_law_475 dL_law_477 dL_law_478 dL_law_479 ?_
  refine gx_scr (k := 2) hX hi (by decide) rfl dL_law_480 dL_law_481 dL_law_483 dL_law_484 dL_law_485 ?_
  refine gx_callV (d := 40) (as := [_, _]) hX.1 ⟨by decide, by decide, hcs.1, hcs.2⟩ wL_52 dL_law_486 rfl rfl rfl rfl (Nat.le_of_ble_eq_true rfl) (ct_X11_pipe hR hK0 hC (r32 _) (r32 _) (fun τ fr => ?_))
  have hR1 := fr.RO hR
  have hM1 := hM.c fr.fc
  have hC1 := hC.q hK0 fr
  refine gx_aload_n hX.1 dL_law_489 rfl ?_
  refine gx_scr (k := 1) hX hi (by decide) rfl dL_law_490 dL_law_491 dL_law_493 dL_law_494 dL_law_495 ?_
  refine gx_scr (k := 2) hX hi (by decide) rfl dL_law_496 dL_law_497 dL_law_499 dL_law_500 dL_law_501 ?_
  refine gx_callV (d := 40) (as := [_, _]) hX.1 ⟨by decide, by decide, hcs.1, hcs.2⟩ wL_55 dL_law_502 rfl rfl rfl rfl (Nat.le_of_ble_eq_true rfl) (ct_X12_pipe hR1 hK0 hM1 (r32 _) (r32 _) (fun μ fd => ?_))
  refine gx_icmp_eq (tgt := 1645) hX.1 dL_law_505 (by decide) (fun _ => ?_) (fun h => absurd rfl h)
  exact hk X μ (fd.RO hR1) hK0 (hC1.m hK0 fd.1) (hM1.q hK0 fd)
theorem lw_c7 (hX : LX p s m args c D cA ad b L xs) (hcs : cells ≤ room_1.cells ∧ slots ≤ room_1.slots) (hi : i + 8 ≤ L) (hR : RO σ) (hK0 : XK X) (hC : CI σ X) (hM : MI σ X) (hk : ∀ (X : XS) (μ : AS), RO μ → XK X → CI μ X → MI μ X → GX p l e room_1 s m args below meth c Q D cA ad 7 cells slots 1645 (LV i) [] μ) : GX p l e room_1 s m args below meth c Q D cA ad 7 cells slots 510 (LV i) [] σ := by
  refine gx_aload_n hX.1 dL_law_510 rfl ?_
  refine gx_scr (k := 1) hX hi (by decide) rfl dL_law_511 dL_law_512 dL_law_514 dL_law_515 dL_law_516 ?_
  refine gx_callV (d := 40) (as := [_]) hX.1 ⟨by decide, by decide, hcs.1, hcs.2⟩ wL_56 dL_law_517 rfl rfl rfl rfl (Nat.le_of_ble_eq_true rfl) (ct_X11_law hR hK0 hC (r32 _) (fun τ fr hC1 => ?_))
  have hR1 := fr.RO hR
  have hM1 := hM.c fr
  refine gx_aload_n hX.1 dL_law_520 rfl ?_
  refine gx_scr (k := 1) hX hi (by decide) rfl dL_law_521 dL_law_522 dL_law_524 dL_law_525 dL_law_526 ?_
  refine gx_callV (d := 40) (as := [_]) hX.1 ⟨by decide, by decide, hcs.1, hcs.2⟩ wL_59 dL_law_527 rfl rfl rfl rfl (Nat.le_of_ble_eq_true rfl) (ct_X12_law hR1 hK0 hM1 (r32 _) (fun μ fd hM2 => ?_))
  refine gx_icmp_eq (tgt := 1645) hX.1 dL_law_530 (by decide) (fun _ => ?_) (fun h => absurd rfl h)
  exact hk _ μ (fd.RO hR1) (lawK hK0) (hC1.m (lawK hK0) fd) hM2
theorem lw_c8 (hX : LX p s m args c D cA ad b L xs) (hcs : cells ≤ room_1.cells ∧ slots ≤ room_1.slots) (hi : i + 8 ≤ L) (hR : RO σ) (hK0 : XK X) (hC : CI σ X) (hM : MI σ X) (hk : ∀ (X : XS) (μ : AS), RO μ → XK X → CI μ X → MI μ X → GX p l e room_1 s m args below meth c Q D cA ad 7 cells slots 1645 (LV i) [] μ) : GX p l e room_1 s m args below meth c Q D cA ad 7 cells slots 535 (LV i) [] σ := by
  refine gx_aload_n hX.1 dL_law_535 rfl ?_
  refine gx_scr (k := 1) hX hi (by decide) rfl dL_law_536 dL_law_537 dL_law_539 dL_law_540 dL_law_541 ?_
  refine gx_scr (k := 2) hX hi (by decide) rfl dL_law_542 dL_law_543 dL_law_545 dL_law_546 dL_law_547 ?_
  refine gx_callV (d := 40) (as := [_, _]) hX.1 ⟨by decide, by decide, hcs.1, hcs.2⟩ wL_60 dL_law_548 rfl rfl rfl rfl (Nat.le_of_ble_eq_true rfl) (ct_X11_odds hR hK0 hC (r32 _) (r32 _) (fun τ fr hC1 => ?_))
  have hR1 := fr.RO hR
  have hM1 := hM.c fr
  refine gx_aload_n hX.1 dL_law_551 rfl ?_
  refine gx_scr (k := 1) hX hi (by decide) rfl dL_law_552 dL_law_553 dL_law_555 dL_law_556 dL_law_557 ?_
  refine gx_scr (k := 2) hX hi (by decide) rfl dL_law_558 dL_law_559 dL_law_561 dL_law_562 dL_law_563 ?_
  refine gx_callV (d := 40) (as := [_, _]) hX.1 ⟨by decide, by decide, hcs.1, hcs.2⟩ wL_64 dL_law_564 rfl rfl rfl rfl (Nat.le_of_ble_eq_true rfl) (ct_X12_odds hR1 hK0 hM1 (r32 _) (r32 _) (fun μ fd hM2 => ?_))
  refine gx_icmp_eq (tgt := 1645) hX.1 dL_law_567 (by decide) (fun _ => ?_) (fun h => absurd rfl h)
  exact hk _ μ (fd.RO hR1) (oddK hK0) (hC1.m (oddK hK0) fd) hM2
theorem lw_c10 (hX : LX p s m args c D cA ad b L xs) (hcs : cells ≤ room_1.cells ∧ slots ≤ room_1.slots) (hi : i + 8 ≤ L) (hR : RO σ) (hK0 : XK X) (hC : CI σ X) (hM : MI σ X) (hk : ∀ (X : XS) (μ : AS), RO μ → XK X → CI μ X → MI μ X → GX p l e room_1 s m args below meth c Q D cA ad 7 cells slots 1645 (LV i) [] μ) : GX p l e room_1 s m args below meth c Q D cA ad 7 cells slots 625 (LV i) [] σ := by
  refine gx_aload_n hX.1 dL_law_625 rfl ?_
  refine gx_scr (k := 1) hX hi (by decide) rfl dL_law_626 dL_law_627 dL_law_629 dL_law_630 dL_law_631 ?_
  refine gx_scr (k := 2) hX hi (by decide) rfl dL_law_632 dL_law_633 dL_law_635 dL_law_636 dL_law_637 ?_
  refine gx_callV (d := 40) (as := [_, _]) hX.1 ⟨by decide, by decide, hcs.1, hcs.2⟩ wL_70 dL_law_638 rfl rfl rfl rfl (Nat.le_of_ble_eq_true rfl) (ct_X11_pour hR hK0 hC (r32 _) (r32 _) (fun τ fr hC1 => ?_))
  have hR1 := fr.RO hR
  have hM1 := hM.c fr
  refine gx_aload_n hX.1 dL_law_641 rfl ?_
  refine gx_scr (k := 1) hX hi (by decide) rfl dL_law_642 dL_law_643 dL_law_645 dL_law_646 dL_law_647 ?_
  refine gx_scr (k := 2) hX hi (by decide) rfl dL_law_648 dL_law_649 dL_law_651 dL_law_652 dL_law_653 ?_
  refine gx_callV (d := 40) (as := [_, _]) hX.1 ⟨by decide, by decide, hcs.1, hcs.2⟩ wL_73 dL_law_654 rfl rfl rfl rfl (Nat.le_of_ble_eq_true rfl) (ct_X12_pour hR1 hK0 hM1 (r32 _) (r32 _) (fun μ fd hM2 => ?_))
  refine gx_icmp_eq (tgt := 1645) hX.1 dL_law_657 (by decide) (fun _ => ?_) (fun h => absurd rfl h)
  exact hk _ μ (fd.RO hR1) (pourK hK0) (hC1.m (pourK hK0) fd) hM2
theorem lw_c11 (hX : LX p s m args c D cA ad b L xs) (hcs : cells ≤ room_1.cells ∧ slots ≤ room_1.slots) (hi : i + 8 ≤ L) (hR : RO σ) (hK0 : XK X) (hC : CI σ X) (hM : MI σ X) (hk : ∀ (X : XS) (μ : AS), RO μ → XK X → CI μ X → MI μ X → GX p l e room_1 s m args below meth c Q D cA ad 7 cells slots 1645 (LV i) [] μ) : GX p l e room_1 s m args below meth c Q D cA ad 7 cells slots 662 (LV i) [] σ := by
  refine gx_aload_n hX.1 dL_law_662 rfl ?_
  refine gx_scr (k := 1) hX hi (by decide) rfl dL_law_663 dL_law_664 dL_law_666 dL_law_667 dL_law_668 ?_
  refine gx_scr (k := 2) hX hi (by decide) rfl dL_law_669 dL_law_670 dL_law_672 dL_law_673 dL_law_674 ?_
  refine gx_callV (d := 40) (as := [_, _]) hX.1 ⟨by decide, by decide, hcs.1, hcs.2⟩ wL_74 dL_law_675 rfl rfl rfl rfl (Nat.le_of_ble_eq_true rfl) (ct_X11_stock hR hK0 hC (r32 _) (r32 _) (fun τ fr hC1 => ?_))
  have hR1 := fr.RO hR
  have hM1 := hM.c fr
  refine gx_aload_n hX.1 dL_law_678 rfl ?_
  refine gx_scr (k := 1) hX hi (by decide) rfl dL_law_679 dL_law_680 dL_law_682 dL_law_683 dL_law_684 ?_
  refine gx_scr (k := 2) hX hi (by decide) rfl dL_law_685 dL_law_686 dL_law_688 dL_law_689 dL_law_690 ?_
  refine gx_callV (d := 40) (as := [_, _]) hX.1 ⟨by decide, by decide, hcs.1, hcs.2⟩ wL_77 dL_law_691 rfl rfl rfl rfl (Nat.le_of_ble_eq_true rfl) (ct_X12_stock hR1 hK0 hM1 (r32 _) (r32 _) (fun μ fd hM2 => ?_))
  refine gx_icmp_eq (tgt := 1645) hX.1 dL_law_694 (by decide) (fun _ => ?_) (fun h => absurd rfl h)
  exact hk _ μ (fd.RO hR1) (stockK hK0) (hC1.m (stockK hK0) fd) hM2
theorem lw_c12 (hX : LX p s m args c D cA ad b L xs) (hcs : cells ≤ room_1.cells ∧ slots ≤ room_1.slots) (hi : i + 8 ≤ L) (hR : RO σ) (hK0 : XK X) (hC : CI σ X) (hM : MI σ X) (hk : ∀ (X : XS) (μ : AS), RO μ → XK X → CI μ X → MI μ X → GX p l e room_1 s m args below meth c Q D cA ad 7 cells slots 1645 (LV i) [] μ) : GX p l e room_1 s m args below meth c Q D cA ad 7 cells slots 699 (LV i) [] σ := by
  refine gx_aload_n hX.1 dL_law_699 rfl ?_
  refine gx_scr (k := 1) hX hi (by decide) rfl dL_law_700 dL_law_701 dL_law_703 dL_law_704 dL_law_705 ?_
  refine gx_callV (d := 40) (as := [_]) hX.1 ⟨by decide, by decide, hcs.1, hcs.2⟩ wL_78 dL_law_706 rfl rfl rfl rfl (Nat.le_of_ble_eq_true rfl) (ct_X11_days hR hK0 hC (r32 _) (fun τ fr hC1 => ?_))
  have hR1 := fr.RO hR
  have hM1 := hM.c fr
  refine gx_aload_n hX.1 dL_law_709 rfl ?_
  refine gx_scr (k := 1) hX hi (by decide) rfl dL_law_710 dL_law_711 dL_law_713 dL_law_714 dL_law_715 ?_
  refine gx_callV (d := 40) (as := [_]) hX.1 ⟨by decide, by decide, hcs.1, hcs.2⟩ wL_81 dL_law_716 rfl rfl rfl rfl (Nat.le_of_ble_eq_true rfl) (ct_X12_days hR1 hK0 hM1 (r32 _) (fun μ fd hM2 => ?_))
  refine gx_icmp_eq (tgt := 1645) hX.1 dL_law_719 (by decide) (fun _ => ?_) (fun h => absurd rfl h)
  exact hk _ μ (fd.RO hR1) (daysK hK0) (hC1.m (daysK hK0) fd) hM2
theorem lw_c14 (hX : LX p s m args c D cA ad b L xs) (hcs : cells ≤ room_1.cells ∧ slots ≤ room_1.slots) (hi : i + 8 ≤ L) (hR : RO σ) (hK0 : XK X) (hC : CI σ X) (hM : MI σ X) (hk : ∀ (X : XS) (μ : AS), RO μ → XK X → CI μ X → MI μ X → GX p l e room_1 s m args below meth c Q D cA ad 7 cells slots 1645 (LV i) [] μ) : GX p l e room_1 s m args below meth c Q D cA ad 7 cells slots 793 (LV i) [] σ := by
  refine gx_aload_n hX.1 dL_law_793 rfl ?_
  refine gx_callV (d := 40) (as := []) hX.1 ⟨by decide, by decide, hcs.1, hcs.2⟩ wL_89 dL_law_794 rfl rfl rfl rfl (Nat.le_of_ble_eq_true rfl) (ct_X11_undo hR hK0 hC  (fun τ fr hC1 => ?_))
  have hR1 := fr.RO hR
  have hM1 := hM.c fr
  refine gx_aload_n hX.1 dL_law_797 rfl ?_
  refine gx_callV (d := 40) (as := []) hX.1 ⟨by decide, by decide, hcs.1, hcs.2⟩ wL_92 dL_law_798 rfl rfl rfl rfl (Nat.le_of_ble_eq_true rfl) (ct_X12_undo hR1 hK0 hM1  (fun μ fd hM2 => ?_))
  refine gx_icmp_eq (tgt := 1645) hX.1 dL_law_801 (by decide) (fun _ => ?_) (fun h => absurd rfl h)
  exact hk _ μ (fd.RO hR1) (undK hK0) (hC1.m (undK hK0) fd) hM2
theorem lw_c15 (hX : LX p s m args c D cA ad b L xs) (hcs : cells ≤ room_1.cells ∧ slots ≤ room_1.slots) (hi : i + 8 ≤ L) (hR : RO σ) (hK0 : XK X) (hC : CI σ X) (hM : MI σ X) (hk : ∀ (X : XS) (μ : AS), RO μ → XK X → CI μ X → MI μ X → GX p l e room_1 s m args below meth c Q D cA ad 7 cells slots 1645 (LV i) [] μ) : GX p l e room_1 s m args below meth c Q D cA ad 7 cells slots 806 (LV i) [] σ := by
  refine gx_aload_n hX.1 dL_law_806 rfl ?_
  refine gx_scr (k := 1) hX hi (by decide) rfl dL_law_807 dL_law_808 dL_law_810 dL_law_811 dL_law_812 ?_
  refine gx_scr (k := 2) hX hi (by decide) rfl dL_law_813 dL_law_814 dL_law_816 dL_law_817 dL_law_818 ?_
  refine gx_callV (d := 40) (as := [_, _]) hX.1 ⟨by decide, by decide, hcs.1, hcs.2⟩ wL_93 dL_law_819 rfl rfl rfl rfl (Nat.le_of_ble_eq_true rfl) (ct_X11_log hR hK0 hC (r32 _) (r32 _) (fun τ fr => ?_))
  have hR1 := fr.RO hR
  have hM1 := hM.c fr.fc
  have hC1 := hC.q hK0 fr
  refine gx_aload_n hX.1 dL_law_822 rfl ?_
  refine gx_scr (k := 1) hX hi (by decide) rfl dL_law_823 dL_law_824 dL_law_826 dL_law_827 dL_law_828 ?_
  refine gx_scr (k := 2) hX hi (by decide) rfl dL_law_829 dL_law_830 dL_law_832 dL_law_833 dL_law_834 ?_
  refine gx_callV (d := 40) (as := [_, _]) hX.1 ⟨by decide, by decide, hcs.1, hcs.2⟩ wL_96 dL_law_835 rfl rfl rfl rfl (Nat.le_of_ble_eq_true rfl) (ct_X12_log hR1 hK0 hM1 (r32 _) (r32 _) (fun μ fd => ?_))
  refine gx_icmp_eq (tgt := 1645) hX.1 dL_law_838 (by decide) (fun _ => ?_) (fun h => absurd rfl h)
  exact hk X μ (fd.RO hR1) hK0 (hC1.m hK0 fd.1) (hM1.q hK0 fd)
theorem lw_c16 (hX : LX p s m args c D cA ad b L xs) (hcs : cells ≤ room_1.cells ∧ slots ≤ room_1.slots) (hi : i + 8 ≤ L) (hR : RO σ) (hK0 : XK X) (hC : CI σ X) (hM : MI σ X) (hk : ∀ (X : XS) (μ : AS), RO μ → XK X → CI μ X → MI μ X → GX p l e room_1 s m args below meth c Q D cA ad 7 cells slots 1645 (LV i) [] μ) : GX p l e room_1 s m args below meth c Q D cA ad 7 cells slots 843 (LV i) [] σ := by
  refine gx_aload_n hX.1 dL_law_843 rfl ?_
  refine gx_scr (k := 1) hX hi (by decide) rfl dL_law_844 dL_law_845 dL_law_847 dL_law_848 dL_law_849 ?_
  refine gx_scr (k := 2) hX hi (by decide) rfl dL_law_850 dL_law_851 dL_law_853 dL_law_854 dL_law_855 ?_
  refine gx_scr (k := 3) hX hi (by decide) rfl dL_law_856 dL_law_857 dL_law_859 dL_law_860 dL_law_861 ?_
  refine gx_callV (d := 40) (as := [_, _, _]) hX.1 ⟨by decide, by decide, hcs.1, hcs.2⟩ wL_97 dL_law_862 rfl rfl rfl rfl (Nat.le_of_ble_eq_true rfl) (ct_X11_step hR hK0 hC (r32 _) (r32 _) (r32 _) (fun τ fr => ?_))
  have hR1 := fr.RO hR
  have hM1 := hM.c fr.fc
  have hC1 := hC.q hK0 fr
  refine gx_aload_n hX.1 dL_law_865 rfl ?_
  refine gx_scr (k := 1) hX hi (by decide) rfl dL_law_866 dL_law_867 dL_law_869 dL_law_870 dL_law_871 ?_
  refine gx_scr (k := 2) hX hi (by decide) rfl dL_law_872 dL_law_873 dL_law_875 dL_law_876 dL_law_877 ?_
  refine gx_scr (k := 3) hX hi (by decide) rfl dL_law_878 dL_law_879 dL_law_881 dL_law_882 dL_law_883 ?_
  refine gx_callV (d := 40) (as := [_, _, _]) hX.1 ⟨by decide, by decide, hcs.1, hcs.2⟩ wL_101 dL_law_884 rfl rfl rfl rfl (Nat.le_of_ble_eq_true rfl) (ct_X12_step hR1 hK0 hM1 (r32 _) (r32 _) (r32 _) (fun μ fd => ?_))
  refine gx_icmp_eq (tgt := 1645) hX.1 dL_law_887 (by decide) (fun _ => ?_) (fun h => absurd rfl h)
  exact hk X μ (fd.RO hR1) hK0 (hC1.m hK0 fd.1) (hM1.q hK0 fd)
theorem lw_c17 (hX : LX p s m args c D cA ad b L xs) (hcs : cells ≤ room_1.cells ∧ slots ≤ room_1.slots) (hi : i + 8 ≤ L) (hR : RO σ) (hK0 : XK X) (hC : CI σ X) (hM : MI σ X) (hk : ∀ (X : XS) (μ : AS), RO μ → XK X → CI μ X → MI μ X → GX p l e room_1 s m args below meth c Q D cA ad 7 cells slots 1645 (LV i) [] μ) : GX p l e room_1 s m args below meth c Q D cA ad 7 cells slots 892 (LV i) [] σ := by
  refine gx_aload_n hX.1 dL_law_892 rfl ?_
  refine gx_scr (k := 1) hX hi (by decide) rfl dL_law_893 dL_law_894 dL_law_896 dL_law_897 dL_law_898 ?_
  refine gx_scr (k := 2) hX hi (by decide) rfl dL_law_899 dL_law_900 dL_law_902 dL_law_903 dL_law_904 ?_
  refine gx_callV (d := 40) (as := [_, _]) hX.1 ⟨by decide, by decide, hcs.1, hcs.2⟩ wL_102 dL_law_905 rfl rfl rfl rfl (Nat.le_of_ble_eq_true rfl) (ct_X11_run hR hK0 hC (r32 _) (r32 _) (fun τ fr => ?_))
  have hR1 := fr.RO hR
  have hM1 := hM.c fr.fc
  have hC1 := hC.q hK0 fr
  refine gx_aload_n hX.1 dL_law_908 rfl ?_
  refine gx_scr (k := 1) hX hi (by decide) rfl dL_law_909 dL_law_910 dL_law_912 dL_law_913 dL_law_914 ?_
  refine gx_scr (k := 2) hX hi (by decide) rfl dL_law_915 dL_law_916 dL_law_918 dL_law_919 dL_law_920 ?_
  refine gx_callV (d := 40) (as := [_, _]) hX.1 ⟨by decide, by decide, hcs.1, hcs.2⟩ wL_105 dL_law_921 rfl rfl rfl rfl (Nat.le_of_ble_eq_true rfl) (ct_X12_run hR1 hK0 hM1 (r32 _) (r32 _) (fun μ fd => ?_))
  refine gx_icmp_eq (tgt := 1645) hX.1 dL_law_924 (by decide) (fun _ => ?_) (fun h => absurd rfl h)
  exact hk X μ (fd.RO hR1) hK0 (hC1.m hK0 fd.1) (hM1.q hK0 fd)
theorem lw_c18 (hX : LX p s m args c D cA ad b L xs) (hcs : cells ≤ room_1.cells ∧ slots ≤ room_1.slots) (hi : i + 8 ≤ L) (hR : RO σ) (hK0 : XK X) (hC : CI σ X) (hM : MI σ X) (hk : ∀ (X : XS) (μ : AS), RO μ → XK X → CI μ X → MI μ X → GX p l e room_1 s m args below meth c Q D cA ad 7 cells slots 1645 (LV i) [] μ) : GX p l e room_1 s m args below meth c Q D cA ad 7 cells slots 929 (LV i) [] σ := by
  refine gx_aload_n hX.1 dL_law_929 rfl ?_
  refine gx_scr (k := 1) hX hi (by decide) rfl dL_law_930 dL_law_931 dL_law_933 dL_law_934 dL_law_935 ?_
  refine gx_callV (d := 40) (as := [_]) hX.1 ⟨by decide, by decide, hcs.1, hcs.2⟩ wL_106 dL_law_936 rfl rfl rfl rfl (Nat.le_of_ble_eq_true rfl) (ct_X11_perform hR hK0 hC (r32 _) (fun τ fr hC1 => ?_))
  have hR1 := fr.RO hR
  have hM1 := hM.c fr
  refine gx_aload_n hX.1 dL_law_939 rfl ?_
  refine gx_scr (k := 1) hX hi (by decide) rfl dL_law_940 dL_law_941 dL_law_943 dL_law_944 dL_law_945 ?_
  refine gx_callV (d := 40) (as := [_]) hX.1 ⟨by decide, by decide, hcs.1, hcs.2⟩ wL_109 dL_law_946 rfl rfl rfl rfl (Nat.le_of_ble_eq_true rfl) (ct_X12_perform hR1 hK0 hM1 (r32 _) (fun μ fd hM2 => ?_))
  refine gx_icmp_eq (tgt := 1645) hX.1 dL_law_949 (by decide) (fun _ => ?_) (fun h => absurd rfl h)
  exact hk _ μ (fd.RO hR1) (perK hK0) (hC1.m (perK hK0) fd) hM2
theorem lw_c19 (hX : LX p s m args c D cA ad b L xs) (hcs : cells ≤ room_1.cells ∧ slots ≤ room_1.slots) (hi : i + 8 ≤ L) (hR : RO σ) (hK0 : XK X) (hC : CI σ X) (hM : MI σ X) (hk : ∀ (X : XS) (μ : AS), RO μ → XK X → CI μ X → MI μ X → GX p l e room_1 s m args below meth c Q D cA ad 7 cells slots 1645 (LV i) [] μ) : GX p l e room_1 s m args below meth c Q D cA ad 7 cells slots 954 (LV i) [] σ := by
  refine gx_aload_n hX.1 dL_law_954 rfl ?_
  refine gx_scr (k := 1) hX hi (by decide) rfl dL_law_955 dL_law_956 dL_law_958 dL_law_959 dL_law_960 ?_
  refine gx_scr (k := 2) hX hi (by decide) rfl dL_law_961 dL_law_962 dL_law_964 dL_law_965 dL_law_966 ?_
  refine gx_callV (d := 40) (as := [_, _]) hX.1 ⟨by decide, by decide, hcs.1, hcs.2⟩ wL_110 dL_law_967 rfl rfl rfl rfl (Nat.le_of_ble_eq_true rfl) (ct_X11_ahead hR hK0 hC (r32 _) (r32 _) (fun τ fr => ?_))
  have hR1 := fr.RO hR
  have hM1 := hM.c fr.fc
  have hC1 := hC.q hK0 fr
  refine gx_aload_n hX.1 dL_law_970 rfl ?_
  refine gx_scr (k := 1) hX hi (by decide) rfl dL_law_971 dL_law_972 dL_law_974 dL_law_975 dL_law_976 ?_
  refine gx_scr (k := 2) hX hi (by decide) rfl dL_law_977 dL_law_978 dL_law_980 dL_law_981 dL_law_982 ?_
  refine gx_callV (d := 40) (as := [_, _]) hX.1 ⟨by decide, by decide, hcs.1, hcs.2⟩ wL_113 dL_law_983 rfl rfl rfl rfl (Nat.le_of_ble_eq_true rfl) (ct_X12_ahead hR1 hK0 hM1 (r32 _) (r32 _) (fun μ fd => ?_))
  refine gx_icmp_eq (tgt := 1645) hX.1 dL_law_986 (by decide) (fun _ => ?_) (fun h => absurd rfl h)
  exact hk X μ (fd.RO hR1) hK0 (hC1.m hK0 fd.1) (hM1.q hK0 fd)
theorem lw_c20 (hX : LX p s m args c D cA ad b L xs) (hcs : cells ≤ room_1.cells ∧ slots ≤ room_1.slots) (hi : i + 8 ≤ L) (hR : RO σ) (hK0 : XK X) (hC : CI σ X) (hM : MI σ X) (hk : ∀ (X : XS) (μ : AS), RO μ → XK X → CI μ X → MI μ X → GX p l e room_1 s m args below meth c Q D cA ad 7 cells slots 1645 (LV i) [] μ) : GX p l e room_1 s m args below meth c Q D cA ad 7 cells slots 991 (LV i) [] σ := by
  refine gx_aload_n hX.1 dL_law_991 rfl ?_
  refine gx_scr (k := 1) hX hi (by decide) rfl dL_law_992 dL_law_993 dL_law_995 dL_law_996 dL_law_997 ?_
  refine gx_callV (d := 40) (as := [_]) hX.1 ⟨by decide, by decide, hcs.1, hcs.2⟩ wL_114 dL_law_998 rfl rfl rfl rfl (Nat.le_of_ble_eq_true rfl) (ct_X11_dries hR hK0 hC (r32 _) (fun τ fr => ?_))
  have hR1 := fr.RO hR
  have hM1 := hM.c fr.fc
  have hC1 := hC.q hK0 fr
  refine gx_aload_n hX.1 dL_law_1001 rfl ?_
  refine gx_scr (k := 1) hX hi (by decide) rfl dL_law_1002 dL_law_1003 dL_law_1005 dL_law_1006 dL_law_1007 ?_
  refine gx_callV (d := 40) (as := [_]) hX.1 ⟨by decide, by decide, hcs.1, hcs.2⟩ wL_117 dL_law_1008 rfl rfl rfl rfl (Nat.le_of_ble_eq_true rfl) (ct_X12_dries hR1 hK0 hM1 (r32 _) (fun μ fd => ?_))
  refine gx_icmp_eq (tgt := 1645) hX.1 dL_law_1011 (by decide) (fun _ => ?_) (fun h => absurd rfl h)
  exact hk X μ (fd.RO hR1) hK0 (hC1.m hK0 fd.1) (hM1.q hK0 fd)
theorem lw_c21 (hX : LX p s m args c D cA ad b L xs) (hcs : cells ≤ room_1.cells ∧ slots ≤ room_1.slots) (hi : i + 8 ≤ L) (hR : RO σ) (hK0 : XK X) (hC : CI σ X) (hM : MI σ X) (hk : ∀ (X : XS) (μ : AS), RO μ → XK X → CI μ X → MI μ X → GX p l e room_1 s m args below meth c Q D cA ad 7 cells slots 1645 (LV i) [] μ) : GX p l e room_1 s m args below meth c Q D cA ad 7 cells slots 1016 (LV i) [] σ := by
  refine gx_aload_n hX.1 dL_law_1016 rfl ?_
  refine gx_callV (d := 40) (as := []) hX.1 ⟨by decide, by decide, hcs.1, hcs.2⟩ wL_118 dL_law_1017 rfl rfl rfl rfl (Nat.le_of_ble_eq_true rfl) (ct_X11_bare hR hK0 hC  (fun τ fr => ?_))
  have hR1 := fr.RO hR
  have hM1 := hM.c fr.fc
  have hC1 := hC.q hK0 fr
  refine gx_aload_n hX.1 dL_law_1020 rfl ?_
  refine gx_callV (d := 40) (as := []) hX.1 ⟨by decide, by decide, hcs.1, hcs.2⟩ wL_121 dL_law_1021 rfl rfl rfl rfl (Nat.le_of_ble_eq_true rfl) (ct_X12_bare hR1 hK0 hM1  (fun μ fd => ?_))
  refine gx_icmp_eq (tgt := 1645) hX.1 dL_law_1024 (by decide) (fun _ => ?_) (fun h => absurd rfl h)
  exact hk X μ (fd.RO hR1) hK0 (hC1.m hK0 fd.1) (hM1.q hK0 fd)
theorem lw_c22 (hX : LX p s m args c D cA ad b L xs) (hcs : cells ≤ room_1.cells ∧ slots ≤ room_1.slots) (hi : i + 8 ≤ L) (hR : RO σ) (hK0 : XK X) (hC : CI σ X) (hM : MI σ X) (hk : ∀ (X : XS) (μ : AS), RO μ → XK X → CI μ X → MI μ X → GX p l e room_1 s m args below meth c Q D cA ad 7 cells slots 1645 (LV i) [] μ) : GX p l e room_1 s m args below meth c Q D cA ad 7 cells slots 1029 (LV i) [] σ := by
  refine gx_aload_n hX.1 dL_law_1029 rfl ?_
  refine gx_scr (k := 1) hX hi (by decide) rfl dL_law_1030 dL_law_1031 dL_law_1033 dL_law_1034 dL_law_1035 ?_
  refine gx_callV (d := 40) (as := [_]) hX.1 ⟨by decide, by decide, hcs.1, hcs.2⟩ wL_122 dL_law_1036 rfl rfl rfl rfl (Nat.le_of_ble_eq_true rfl) (ct_X11_keys hR hK0 hC (r32 _) (fun τ fr => ?_))
  have hR1 := fr.RO hR
  have hM1 := hM.c fr.fc
  have hC1 := hC.q hK0 fr
  refine gx_aload_n hX.1 dL_law_1039 rfl ?_
  refine gx_scr (k := 1) hX hi (by decide) rfl dL_law_1040 dL_law_1041 dL_law_1043 dL_law_1044 dL_law_1045 ?_
  refine gx_callV (d := 40) (as := [_]) hX.1 ⟨by decide, by decide, hcs.1, hcs.2⟩ wL_125 dL_law_1046 rfl rfl rfl rfl (Nat.le_of_ble_eq_true rfl) (ct_X12_keys hR1 hK0 hM1 (r32 _) (fun μ fd => ?_))
  refine gx_icmp_eq (tgt := 1645) hX.1 dL_law_1049 (by decide) (fun _ => ?_) (fun h => absurd rfl h)
  exact hk X μ (fd.RO hR1) hK0 (hC1.m hK0 fd.1) (hM1.q hK0 fd)
theorem lw_c23 (hX : LX p s m args c D cA ad b L xs) (hcs : cells ≤ room_1.cells ∧ slots ≤ room_1.slots) (hi : i + 8 ≤ L) (hR : RO σ) (hK0 : XK X) (hC : CI σ X) (hM : MI σ X) (hk : ∀ (X : XS) (μ : AS), RO μ → XK X → CI μ X → MI μ X → GX p l e room_1 s m args below meth c Q D cA ad 7 cells slots 1645 (LV i) [] μ) : GX p l e room_1 s m args below meth c Q D cA ad 7 cells slots 1054 (LV i) [] σ := by
  refine gx_aload_n hX.1 dL_law_1054 rfl ?_
  refine gx_scr (k := 1) hX hi (by decide) rfl dL_law_1055 dL_law_1056 dL_law_1058 dL_law_1059 dL_law_1060 ?_
  refine gx_scr (k := 2) hX hi (by decide) rfl dL_law_1061 dL_law_1062 dL_law_1064 dL_law_1065 dL_law_1066 ?_
  refine gx_callV (d := 40) (as := [_, _]) hX.1 ⟨by decide, by decide, hcs.1, hcs.2⟩ wL_126 dL_law_1067 rfl rfl rfl rfl (Nat.le_of_ble_eq_true rfl) (ct_X11_kept hR hK0 hC (r32 _) (r32 _) (fun τ fr => ?_))
  have hR1 := fr.RO hR
  have hM1 := hM.c fr.fc
  have hC1 := hC.q hK0 fr
  refine gx_aload_n hX.1 dL_law_1070 rfl ?_
  refine gx_scr (k := 1) hX hi (by decide) rfl dL_law_1071 dL_law_1072 dL_law_1074 dL_law_1075 dL_law_1076 ?_
  refine gx_scr (k := 2) hX hi (by decide) rfl dL_law_1077 dL_law_1078 dL_law_1080 dL_law_1081 dL_law_1082 ?_
  refine gx_callV (d := 40) (as := [_, _]) hX.1 ⟨by decide, by decide, hcs.1, hcs.2⟩ wL_129 dL_law_1083 rfl rfl rfl rfl (Nat.le_of_ble_eq_true rfl) (ct_X12_kept hR1 hK0 hM1 (r32 _) (r32 _) (fun μ fd => ?_))
  refine gx_icmp_eq (tgt := 1645) hX.1 dL_law_1086 (by decide) (fun _ => ?_) (fun h => absurd rfl h)
  exact hk X μ (fd.RO hR1) hK0 (hC1.m hK0 fd.1) (hM1.q hK0 fd)
theorem lw_c24 (hX : LX p s m args c D cA ad b L xs) (hcs : cells ≤ room_1.cells ∧ slots ≤ room_1.slots) (hi : i + 8 ≤ L) (hR : RO σ) (hK0 : XK X) (hC : CI σ X) (hM : MI σ X) (hk : ∀ (X : XS) (μ : AS), RO μ → XK X → CI μ X → MI μ X → GX p l e room_1 s m args below meth c Q D cA ad 7 cells slots 1645 (LV i) [] μ) : GX p l e room_1 s m args below meth c Q D cA ad 7 cells slots 1091 (LV i) [] σ := by
  refine gx_aload_n hX.1 dL_law_1091 rfl ?_
  refine gx_scr (k := 1) hX hi (by decide) rfl dL_law_1092 dL_law_1093 dL_law_1095 dL_law_1096 dL_law_1097 ?_
  refine gx_callV (d := 40) (as := [_]) hX.1 ⟨by decide, by decide, hcs.1, hcs.2⟩ wL_130 dL_law_1098 rfl rfl rfl rfl (Nat.le_of_ble_eq_true rfl) (ct_X11_cut hR hK0 hC (r32 _) (fun τ fr => ?_))
  have hR1 := fr.RO hR
  have hM1 := hM.c fr.fc
  have hC1 := hC.q hK0 fr
  refine gx_aload_n hX.1 dL_law_1101 rfl ?_
  refine gx_scr (k := 1) hX hi (by decide) rfl dL_law_1102 dL_law_1103 dL_law_1105 dL_law_1106 dL_law_1107 ?_
  refine gx_callV (d := 40) (as := [_]) hX.1 ⟨by decide, by decide, hcs.1, hcs.2⟩ wL_133 dL_law_1108 rfl rfl rfl rfl (Nat.le_of_ble_eq_true rfl) (ct_X12_cut hR1 hK0 hM1 (r32 _) (fun μ fd => ?_))
  refine gx_icmp_eq (tgt := 1645) hX.1 dL_law_1111 (by decide) (fun _ => ?_) (fun h => absurd rfl h)
  exact hk X μ (fd.RO hR1) hK0 (hC1.m hK0 fd.1) (hM1.q hK0 fd)
theorem lw_c25 (hX : LX p s m args c D cA ad b L xs) (hcs : cells ≤ room_1.cells ∧ slots ≤ room_1.slots) (hi : i + 8 ≤ L) (hR : RO σ) (hK0 : XK X) (hC : CI σ X) (hM : MI σ X) (hk : ∀ (X : XS) (μ : AS), RO μ → XK X → CI μ X → MI μ X → GX p l e room_1 s m args below meth c Q D cA ad 7 cells slots 1645 (LV i) [] μ) : GX p l e room_1 s m args below meth c Q D cA ad 7 cells slots 1116 (LV i) [] σ := by
  refine gx_aload_n hX.1 dL_law_1116 rfl ?_
  refine gx_scr (k := 1) hX hi (by decide) rfl dL_law_1117 dL_law_1118 dL_law_1120 dL_law_1121 dL_law_1122 ?_
  refine gx_callV (d := 40) (as := [_]) hX.1 ⟨by decide, by decide, hcs.1, hcs.2⟩ wL_134 dL_law_1123 rfl rfl rfl rfl (Nat.le_of_ble_eq_true rfl) (ct_X11_rest hR hK0 hC (r32 _) (fun τ fr => ?_))
  have hR1 := fr.RO hR
  have hM1 := hM.c fr.fc
  have hC1 := hC.q hK0 fr
  refine gx_aload_n hX.1 dL_law_1126 rfl ?_
  refine gx_scr (k := 1) hX hi (by decide) rfl dL_law_1127 dL_law_1128 dL_law_1130 dL_law_1131 dL_law_1132 ?_
  refine gx_callV (d := 40) (as := [_]) hX.1 ⟨by decide, by decide, hcs.1, hcs.2⟩ wL_137 dL_law_1133 rfl rfl rfl rfl (Nat.le_of_ble_eq_true rfl) (ct_X12_rest hR1 hK0 hM1 (r32 _) (fun μ fd => ?_))
  refine gx_icmp_eq (tgt := 1645) hX.1 dL_law_1136 (by decide) (fun _ => ?_) (fun h => absurd rfl h)
  exact hk X μ (fd.RO hR1) hK0 (hC1.m hK0 fd.1) (hM1.q hK0 fd)
theorem lw_c26 (hX : LX p s m args c D cA ad b L xs) (hcs : cells ≤ room_1.cells ∧ slots ≤ room_1.slots) (hi : i + 8 ≤ L) (hR : RO σ) (hK0 : XK X) (hC : CI σ X) (hM : MI σ X) (hk : ∀ (X : XS) (μ : AS), RO μ → XK X → CI μ X → MI μ X → GX p l e room_1 s m args below meth c Q D cA ad 7 cells slots 1645 (LV i) [] μ) : GX p l e room_1 s m args below meth c Q D cA ad 7 cells slots 1141 (LV i) [] σ := by
  refine gx_aload_n hX.1 dL_law_1141 rfl ?_
  refine gx_scr (k := 1) hX hi (by decide) rfl dL_law_1142 dL_law_1143 dL_law_1145 dL_law_1146 dL_law_1147 ?_
  refine gx_callV (d := 40) (as := [_]) hX.1 ⟨by decide, by decide, hcs.1, hcs.2⟩ wL_138 dL_law_1148 rfl rfl rfl rfl (Nat.le_of_ble_eq_true rfl) (ct_X11_joined hR hK0 hC (r32 _) (fun τ fr => ?_))
  have hR1 := fr.RO hR
  have hM1 := hM.c fr.fc
  have hC1 := hC.q hK0 fr
  refine gx_aload_n hX.1 dL_law_1151 rfl ?_
  refine gx_scr (k := 1) hX hi (by decide) rfl dL_law_1152 dL_law_1153 dL_law_1155 dL_law_1156 dL_law_1157 ?_
  refine gx_callV (d := 40) (as := [_]) hX.1 ⟨by decide, by decide, hcs.1, hcs.2⟩ wL_141 dL_law_1158 rfl rfl rfl rfl (Nat.le_of_ble_eq_true rfl) (ct_X12_joined hR1 hK0 hM1 (r32 _) (fun μ fd => ?_))
  refine gx_icmp_eq (tgt := 1645) hX.1 dL_law_1161 (by decide) (fun _ => ?_) (fun h => absurd rfl h)
  exact hk X μ (fd.RO hR1) hK0 (hC1.m hK0 fd.1) (hM1.q hK0 fd)
theorem lw_c27 (hX : LX p s m args c D cA ad b L xs) (hcs : cells ≤ room_1.cells ∧ slots ≤ room_1.slots) (hi : i + 8 ≤ L) (hR : RO σ) (hK0 : XK X) (hC : CI σ X) (hM : MI σ X) (hk : ∀ (X : XS) (μ : AS), RO μ → XK X → CI μ X → MI μ X → GX p l e room_1 s m args below meth c Q D cA ad 7 cells slots 1645 (LV i) [] μ) : GX p l e room_1 s m args below meth c Q D cA ad 7 cells slots 1166 (LV i) [] σ := by
  refine gx_aload_n hX.1 dL_law_1166 rfl ?_
  refine gx_callV (d := 40) (as := []) hX.1 ⟨by decide, by decide, hcs.1, hcs.2⟩ wL_142 dL_law_1167 rfl rfl rfl rfl (Nat.le_of_ble_eq_true rfl) (ct_X11_apart hR hK0 hC  (fun τ fr => ?_))
  have hR1 := fr.RO hR
  have hM1 := hM.c fr.fc
  have hC1 := hC.q hK0 fr
  refine gx_aload_n hX.1 dL_law_1170 rfl ?_
  refine gx_callV (d := 40) (as := []) hX.1 ⟨by decide, by decide, hcs.1, hcs.2⟩ wL_145 dL_law_1171 rfl rfl rfl rfl (Nat.le_of_ble_eq_true rfl) (ct_X12_apart hR1 hK0 hM1  (fun μ fd => ?_))
  refine gx_icmp_eq (tgt := 1645) hX.1 dL_law_1174 (by decide) (fun _ => ?_) (fun h => absurd rfl h)
  exact hk X μ (fd.RO hR1) hK0 (hC1.m hK0 fd.1) (hM1.q hK0 fd)
theorem lw_c28 (hX : LX p s m args c D cA ad b L xs) (hcs : cells ≤ room_1.cells ∧ slots ≤ room_1.slots) (hi : i + 8 ≤ L) (hR : RO σ) (hK0 : XK X) (hC : CI σ X) (hM : MI σ X) (hk : ∀ (X : XS) (μ : AS), RO μ → XK X → CI μ X → MI μ X → GX p l e room_1 s m args below meth c Q D cA ad 7 cells slots 1645 (LV i) [] μ) : GX p l e room_1 s m args below meth c Q D cA ad 7 cells slots 1179 (LV i) [] σ := by
  refine gx_aload_n hX.1 dL_law_1179 rfl ?_
  refine gx_scr (k := 1) hX hi (by decide) rfl dL_law_1180 dL_law_1181 dL_law_1183 dL_law_1184 dL_law_1185 ?_
  refine gx_scr (k := 2) hX hi (by decide) rfl dL_law_1186 dL_law_1187 dL_law_1189 dL_law_1190 dL_law_1191 ?_
  refine gx_callV (d := 40) (as := [_, _]) hX.1 ⟨by decide, by decide, hcs.1, hcs.2⟩ wL_146 dL_law_1192 rfl rfl rfl rfl (Nat.le_of_ble_eq_true rfl) (ct_X11_measured hR hK0 hC (r32 _) (r32 _) (fun τ fr hC1 => ?_))
  have hR1 := fr.RO hR
  have hM1 := hM.c fr
  refine gx_aload_n hX.1 dL_law_1195 rfl ?_
  refine gx_scr (k := 1) hX hi (by decide) rfl dL_law_1196 dL_law_1197 dL_law_1199 dL_law_1200 dL_law_1201 ?_
  refine gx_scr (k := 2) hX hi (by decide) rfl dL_law_1202 dL_law_1203 dL_law_1205 dL_law_1206 dL_law_1207 ?_
  refine gx_callV (d := 40) (as := [_, _]) hX.1 ⟨by decide, by decide, hcs.1, hcs.2⟩ wL_149 dL_law_1208 rfl rfl rfl rfl (Nat.le_of_ble_eq_true rfl) (ct_X12_measured hR1 hK0 hM1 (r32 _) (r32 _) (fun μ fd hM2 => ?_))
  refine gx_icmp_eq (tgt := 1645) hX.1 dL_law_1211 (by decide) (fun _ => ?_) (fun h => absurd rfl h)
  exact hk _ μ (fd.RO hR1) (msrK hK0) (hC1.m (msrK hK0) fd) hM2
theorem lw_c29 (hX : LX p s m args c D cA ad b L xs) (hcs : cells ≤ room_1.cells ∧ slots ≤ room_1.slots) (hi : i + 8 ≤ L) (hR : RO σ) (hK0 : XK X) (hC : CI σ X) (hM : MI σ X) (hk : ∀ (X : XS) (μ : AS), RO μ → XK X → CI μ X → MI μ X → GX p l e room_1 s m args below meth c Q D cA ad 7 cells slots 1645 (LV i) [] μ) : GX p l e room_1 s m args below meth c Q D cA ad 7 cells slots 1216 (LV i) [] σ := by
  refine gx_aload_n hX.1 dL_law_1216 rfl ?_
  refine gx_scr (k := 1) hX hi (by decide) rfl dL_law_1217 dL_law_1218 dL_law_1220 dL_law_1221 dL_law_1222 ?_
  refine gx_callV (d := 40) (as := [_]) hX.1 ⟨by decide, by decide, hcs.1, hcs.2⟩ wL_150 dL_law_1223 rfl rfl rfl rfl (Nat.le_of_ble_eq_true rfl) (ct_X11_secret hR hK0 hC (r32 _) (fun τ fr => ?_))
  have hR1 := fr.RO hR
  have hM1 := hM.c fr.fc
  have hC1 := hC.q hK0 fr
  refine gx_aload_n hX.1 dL_law_1226 rfl ?_
  refine gx_scr (k := 1) hX hi (by decide) rfl dL_law_1227 dL_law_1228 dL_law_1230 dL_law_1231 dL_law_1232 ?_
  refine gx_callV (d := 40) (as := [_]) hX.1 ⟨by decide, by decide, hcs.1, hcs.2⟩ wL_153 dL_law_1233 rfl rfl rfl rfl (Nat.le_of_ble_eq_true rfl) (ct_X12_secret hR1 hK0 hM1 (r32 _) (fun μ fd => ?_))
  refine gx_icmp_eq (tgt := 1645) hX.1 dL_law_1236 (by decide) (fun _ => ?_) (fun h => absurd rfl h)
  exact hk X μ (fd.RO hR1) hK0 (hC1.m hK0 fd.1) (hM1.q hK0 fd)
theorem lw_c30 (hX : LX p s m args c D cA ad b L xs) (hcs : cells ≤ room_1.cells ∧ slots ≤ room_1.slots) (hi : i + 8 ≤ L) (hR : RO σ) (hK0 : XK X) (hC : CI σ X) (hM : MI σ X) (hk : ∀ (X : XS) (μ : AS), RO μ → XK X → CI μ X → MI μ X → GX p l e room_1 s m args below meth c Q D cA ad 7 cells slots 1645 (LV i) [] μ) : GX p l e room_1 s m args below meth c Q D cA ad 7 cells slots 1241 (LV i) [] σ := by
  refine gx_aload_n hX.1 dL_law_1241 rfl ?_
  refine gx_callV (d := 40) (as := []) hX.1 ⟨by decide, by decide, hcs.1, hcs.2⟩ wL_154 dL_law_1242 rfl rfl rfl rfl (Nat.le_of_ble_eq_true rfl) (ct_X11_measure hR hK0 hC  (fun τ fr => ?_))
  have hR1 := fr.RO hR
  have hM1 := hM.c fr.fc
  have hC1 := hC.q hK0 fr
  refine gx_aload_n hX.1 dL_law_1245 rfl ?_
  refine gx_callV (d := 40) (as := []) hX.1 ⟨by decide, by decide, hcs.1, hcs.2⟩ wL_157 dL_law_1246 rfl rfl rfl rfl (Nat.le_of_ble_eq_true rfl) (ct_X12_measure hR1 hK0 hM1  (fun μ fd => ?_))
  refine gx_icmp_eq (tgt := 1645) hX.1 dL_law_1249 (by decide) (fun _ => ?_) (fun h => absurd rfl h)
  exact hk X μ (fd.RO hR1) hK0 (hC1.m hK0 fd.1) (hM1.q hK0 fd)
theorem lw_c31 (hX : LX p s m args c D cA ad b L xs) (hcs : cells ≤ room_1.cells ∧ slots ≤ room_1.slots) (hi : i + 8 ≤ L) (hR : RO σ) (hK0 : XK X) (hC : CI σ X) (hM : MI σ X) (hk : ∀ (X : XS) (μ : AS), RO μ → XK X → CI μ X → MI μ X → GX p l e room_1 s m args below meth c Q D cA ad 7 cells slots 1645 (LV i) [] μ) : GX p l e room_1 s m args below meth c Q D cA ad 7 cells slots 1254 (LV i) [] σ := by
  refine gx_aload_n hX.1 dL_law_1254 rfl ?_
  refine gx_callV (d := 40) (as := []) hX.1 ⟨by decide, by decide, hcs.1, hcs.2⟩ wL_158 dL_law_1255 rfl rfl rfl rfl (Nat.le_of_ble_eq_true rfl) (ct_X11_walls hR hK0 hC  (fun τ fr => ?_))
  have hR1 := fr.RO hR
  have hM1 := hM.c fr.fc
  have hC1 := hC.q hK0 fr
  refine gx_aload_n hX.1 dL_law_1258 rfl ?_
  refine gx_callV (d := 40) (as := []) hX.1 ⟨by decide, by decide, hcs.1, hcs.2⟩ wL_161 dL_law_1259 rfl rfl rfl rfl (Nat.le_of_ble_eq_true rfl) (ct_X12_walls hR1 hK0 hM1  (fun μ fd => ?_))
  refine gx_icmp_eq (tgt := 1645) hX.1 dL_law_1262 (by decide) (fun _ => ?_) (fun h => absurd rfl h)
  exact hk X μ (fd.RO hR1) hK0 (hC1.m hK0 fd.1) (hM1.q hK0 fd)
theorem lw_c32 (hX : LX p s m args c D cA ad b L xs) (hcs : cells ≤ room_1.cells ∧ slots ≤ room_1.slots) (hi : i + 8 ≤ L) (hR : RO σ) (hK0 : XK X) (hC : CI σ X) (hM : MI σ X) (hk : ∀ (X : XS) (μ : AS), RO μ → XK X → CI μ X → MI μ X → GX p l e room_1 s m args below meth c Q D cA ad 7 cells slots 1645 (LV i) [] μ) : GX p l e room_1 s m args below meth c Q D cA ad 7 cells slots 1267 (LV i) [] σ := by
  refine gx_aload_n hX.1 dL_law_1267 rfl ?_
  refine gx_scr (k := 1) hX hi (by decide) rfl dL_law_1268 dL_law_1269 dL_law_1271 dL_law_1272 dL_law_1273 ?_
  refine gx_scr (k := 2) hX hi (by decide) rfl dL_law_1274 dL_law_1275 dL_law_1277 dL_law_1278 dL_law_1279 ?_
  refine gx_scr (k := 3) hX hi (by decide) rfl dL_law_1280 dL_law_1281 dL_law_1283 dL_law_1284 dL_law_1285 ?_
  refine gx_scr (k := 4) hX hi (by decide) rfl dL_law_1286 dL_law_1287 dL_law_1289 dL_law_1290 dL_law_1291 ?_
  refine gx_scr (k := 5) hX hi (by decide) rfl dL_law_1292 dL_law_1293 dL_law_1295 dL_law_1296 dL_law_1297 ?_
  refine gx_scrB (k := 6) hX hi (by decide) rfl dL_law_1298 dL_law_1299 dL_law_1301 dL_law_1303 dL_law_1304 ?_
  refine gx_scrB (k := 7) hX hi (by decide) rfl dL_law_1305 dL_law_1306 dL_law_1308 dL_law_1310 dL_law_1311 ?_
  refine gx_callV (d := 40) (as := [_, _, _, _, _, _, _]) hX.1 ⟨by decide, by decide, hcs.1, hcs.2⟩ wL_162 dL_law_1312 rfl rfl rfl rfl (Nat.le_of_ble_eq_true rfl) (ct_X11_feud hR hK0 hC (r32 _) (r32 _) (r32 _) (r32 _) (r32 _) (r32 _) (r32 _) (fun τ fr => ?_))
  have hR1 := fr.RO hR
  have hM1 := hM.c fr.fc
  have hC1 := hC.q hK0 fr
  refine gx_aload_n hX.1 dL_law_1315 rfl ?_
  refine gx_scr (k := 1) hX hi (by decide) rfl dL_law_1316 dL_law_1317 dL_law_1319 dL_law_1320 dL_law_1321 ?_
  refine gx_scr (k := 2) hX hi (by decide) rfl dL_law_1322 dL_law_1323 dL_law_1325 dL_law_1326 dL_law_1327 ?_
  refine gx_scr (k := 3) hX hi (by decide) rfl dL_law_1328 dL_law_1329 dL_law_1331 dL_law_1332 dL_law_1333 ?_
  refine gx_scr (k := 4) hX hi (by decide) rfl dL_law_1334 dL_law_1335 dL_law_1337 dL_law_1338 dL_law_1339 ?_
  refine gx_scr (k := 5) hX hi (by decide) rfl dL_law_1340 dL_law_1341 dL_law_1343 dL_law_1344 dL_law_1345 ?_
  refine gx_scrB (k := 6) hX hi (by decide) rfl dL_law_1346 dL_law_1347 dL_law_1349 dL_law_1351 dL_law_1352 ?_
  refine gx_scrB (k := 7) hX hi (by decide) rfl dL_law_1353 dL_law_1354 dL_law_1356 dL_law_1358 dL_law_1359 ?_
  refine gx_callV (d := 40) (as := [_, _, _, _, _, _, _]) hX.1 ⟨by decide, by decide, hcs.1, hcs.2⟩ wL_166 dL_law_1360 rfl rfl rfl rfl (Nat.le_of_ble_eq_true rfl) (ct_X12_feud hR1 hK0 hM1 (r32 _) (r32 _) (r32 _) (r32 _) (r32 _) (r32 _) (r32 _) (fun μ fd => ?_))
  refine gx_icmp_eq (tgt := 1645) hX.1 dL_law_1363 (by decide) (fun _ => ?_) (fun h => absurd rfl h)
  exact hk X μ (fd.RO hR1) hK0 (hC1.m hK0 fd.1) (hM1.q hK0 fd)
theorem lw_c33 (hX : LX p s m args c D cA ad b L xs) (hcs : cells ≤ room_1.cells ∧ slots ≤ room_1.slots) (hi : i + 8 ≤ L) (hR : RO σ) (hK0 : XK X) (hC : CI σ X) (hM : MI σ X) (hk : ∀ (X : XS) (μ : AS), RO μ → XK X → CI μ X → MI μ X → GX p l e room_1 s m args below meth c Q D cA ad 7 cells slots 1645 (LV i) [] μ) : GX p l e room_1 s m args below meth c Q D cA ad 7 cells slots 1368 (LV i) [] σ := by
  refine gx_aload_n hX.1 dL_law_1368 rfl ?_
  refine gx_scr (k := 1) hX hi (by decide) rfl dL_law_1369 dL_law_1370 dL_law_1372 dL_law_1373 dL_law_1374 ?_
  refine gx_scr (k := 2) hX hi (by decide) rfl dL_law_1375 dL_law_1376 dL_law_1378 dL_law_1379 dL_law_1380 ?_
  refine gx_scr (k := 3) hX hi (by decide) rfl dL_law_1381 dL_law_1382 dL_law_1384 dL_law_1385 dL_law_1386 ?_
  refine gx_scr (k := 4) hX hi (by decide) rfl dL_law_1387 dL_law_1388 dL_law_1390 dL_law_1391 dL_law_1392 ?_
  refine gx_scr (k := 5) hX hi (by decide) rfl dL_law_1393 dL_law_1394 dL_law_1396 dL_law_1397 dL_law_1398 ?_
  refine gx_scrB (k := 6) hX hi (by decide) rfl dL_law_1399 dL_law_1400 dL_law_1402 dL_law_1404 dL_law_1405 ?_
  refine gx_callV (d := 40) (as := [_, _, _, _, _, _]) hX.1 ⟨by decide, by decide, hcs.1, hcs.2⟩ wL_167 dL_law_1406 rfl rfl rfl rfl (Nat.le_of_ble_eq_true rfl) (ct_X11_rests hR hK0 hC (r32 _) (r32 _) (r32 _) (r32 _) (r32 _) (r32 _) (fun τ fr => ?_))
  have hR1 := fr.RO hR
  have hM1 := hM.c fr.fc
  have hC1 := hC.q hK0 fr
  refine gx_aload_n hX.1 dL_law_1409 rfl ?_
  refine gx_scr (k := 1) hX hi (by decide) rfl dL_law_1410 dL_law_1411 dL_law_1413 dL_law_1414 dL_law_1415 ?_
  refine gx_scr (k := 2) hX hi (by decide) rfl dL_law_1416 dL_law_1417 dL_law_1419 dL_law_1420 dL_law_1421 ?_
  refine gx_scr (k := 3) hX hi (by decide) rfl dL_law_1422 dL_law_1423 dL_law_1425 dL_law_1426 dL_law_1427 ?_
  refine gx_scr (k := 4) hX hi (by decide) rfl dL_law_1428 dL_law_1429 dL_law_1431 dL_law_1432 dL_law_1433 ?_
  refine gx_scr (k := 5) hX hi (by decide) rfl dL_law_1434 dL_law_1435 dL_law_1437 dL_law_1438 dL_law_1439 ?_
  refine gx_scrB (k := 6) hX hi (by decide) rfl dL_law_1440 dL_law_1441 dL_law_1443 dL_law_1445 dL_law_1446 ?_
  refine gx_callV (d := 40) (as := [_, _, _, _, _, _]) hX.1 ⟨by decide, by decide, hcs.1, hcs.2⟩ wL_171 dL_law_1447 rfl rfl rfl rfl (Nat.le_of_ble_eq_true rfl) (ct_X12_rests hR1 hK0 hM1 (r32 _) (r32 _) (r32 _) (r32 _) (r32 _) (r32 _) (fun μ fd => ?_))
  refine gx_icmp_eq (tgt := 1645) hX.1 dL_law_1450 (by decide) (fun _ => ?_) (fun h => absurd rfl h)
  exact hk X μ (fd.RO hR1) hK0 (hC1.m hK0 fd.1) (hM1.q hK0 fd)
theorem lw_c34 (hX : LX p s m args c D cA ad b L xs) (hcs : cells ≤ room_1.cells ∧ slots ≤ room_1.slots) (hi : i + 8 ≤ L) (hR : RO σ) (hK0 : XK X) (hC : CI σ X) (hM : MI σ X) (hk : ∀ (X : XS) (μ : AS), RO μ → XK X → CI μ X → MI μ X → GX p l e room_1 s m args below meth c Q D cA ad 7 cells slots 1645 (LV i) [] μ) : GX p l e room_1 s m args below meth c Q D cA ad 7 cells slots 1455 (LV i) [] σ := by
  refine gx_aload_n hX.1 dL_law_1455 rfl ?_
  refine gx_scr (k := 1) hX hi (by decide) rfl dL_law_1456 dL_law_1457 dL_law_1459 dL_law_1460 dL_law_1461 ?_
  refine gx_callV (d := 40) (as := [_]) hX.1 ⟨by decide, by decide, hcs.1, hcs.2⟩ wL_172 dL_law_1462 rfl rfl rfl rfl (Nat.le_of_ble_eq_true rfl) (ct_X11_reads hR hK0 hC (r32 _) (fun τ fr => ?_))
  have hR1 := fr.RO hR
  have hM1 := hM.c fr.fc
  have hC1 := hC.q hK0 fr
  refine gx_aload_n hX.1 dL_law_1465 rfl ?_
  refine gx_scr (k := 1) hX hi (by decide) rfl dL_law_1466 dL_law_1467 dL_law_1469 dL_law_1470 dL_law_1471 ?_
  refine gx_callV (d := 40) (as := [_]) hX.1 ⟨by decide, by decide, hcs.1, hcs.2⟩ wL_175 dL_law_1472 rfl rfl rfl rfl (Nat.le_of_ble_eq_true rfl) (ct_X12_reads hR1 hK0 hM1 (r32 _) (fun μ fd => ?_))
  refine gx_icmp_eq (tgt := 1645) hX.1 dL_law_1475 (by decide) (fun _ => ?_) (fun h => absurd rfl h)
  exact hk X μ (fd.RO hR1) hK0 (hC1.m hK0 fd.1) (hM1.q hK0 fd)
theorem lw_c35 (hX : LX p s m args c D cA ad b L xs) (hcs : cells ≤ room_1.cells ∧ slots ≤ room_1.slots) (hi : i + 8 ≤ L) (hR : RO σ) (hK0 : XK X) (hC : CI σ X) (hM : MI σ X) (hk : ∀ (X : XS) (μ : AS), RO μ → XK X → CI μ X → MI μ X → GX p l e room_1 s m args below meth c Q D cA ad 7 cells slots 1645 (LV i) [] μ) : GX p l e room_1 s m args below meth c Q D cA ad 7 cells slots 1480 (LV i) [] σ := by
  refine gx_aload_n hX.1 dL_law_1480 rfl ?_
  refine gx_callV (d := 40) (as := []) hX.1 ⟨by decide, by decide, hcs.1, hcs.2⟩ wL_176 dL_law_1481 rfl rfl rfl rfl (Nat.le_of_ble_eq_true rfl) (ct_X11_darkest hR hK0 hC  (fun τ fr => ?_))
  have hR1 := fr.RO hR
  have hM1 := hM.c fr.fc
  have hC1 := hC.q hK0 fr
  refine gx_aload_n hX.1 dL_law_1484 rfl ?_
  refine gx_callV (d := 40) (as := []) hX.1 ⟨by decide, by decide, hcs.1, hcs.2⟩ wL_179 dL_law_1485 rfl rfl rfl rfl (Nat.le_of_ble_eq_true rfl) (ct_X12_darkest hR1 hK0 hM1  (fun μ fd => ?_))
  refine gx_icmp_eq (tgt := 1645) hX.1 dL_law_1488 (by decide) (fun _ => ?_) (fun h => absurd rfl h)
  exact hk X μ (fd.RO hR1) hK0 (hC1.m hK0 fd.1) (hM1.q hK0 fd)
theorem lw_c36 (hX : LX p s m args c D cA ad b L xs) (hcs : cells ≤ room_1.cells ∧ slots ≤ room_1.slots) (hi : i + 8 ≤ L) (hR : RO σ) (hK0 : XK X) (hC : CI σ X) (hM : MI σ X) (hk : ∀ (X : XS) (μ : AS), RO μ → XK X → CI μ X → MI μ X → GX p l e room_1 s m args below meth c Q D cA ad 7 cells slots 1645 (LV i) [] μ) : GX p l e room_1 s m args below meth c Q D cA ad 7 cells slots 1493 (LV i) [] σ := by
  refine gx_aload_n hX.1 dL_law_1493 rfl ?_
  refine gx_scr (k := 1) hX hi (by decide) rfl dL_law_1494 dL_law_1495 dL_law_1497 dL_law_1498 dL_law_1499 ?_
  refine gx_callV (d := 40) (as := [_]) hX.1 ⟨by decide, by decide, hcs.1, hcs.2⟩ wL_180 dL_law_1500 rfl rfl rfl rfl (Nat.le_of_ble_eq_true rfl) (ct_X11_rent hR hK0 hC (r32 _) (fun τ fr => ?_))
  have hR1 := fr.RO hR
  have hM1 := hM.c fr.fc
  have hC1 := hC.q hK0 fr
  refine gx_aload_n hX.1 dL_law_1503 rfl ?_
  refine gx_scr (k := 1) hX hi (by decide) rfl dL_law_1504 dL_law_1505 dL_law_1507 dL_law_1508 dL_law_1509 ?_
  refine gx_callV (d := 40) (as := [_]) hX.1 ⟨by decide, by decide, hcs.1, hcs.2⟩ wL_183 dL_law_1510 rfl rfl rfl rfl (Nat.le_of_ble_eq_true rfl) (ct_X12_rent hR1 hK0 hM1 (r32 _) (fun μ fd => ?_))
  refine gx_icmp_eq (tgt := 1645) hX.1 dL_law_1513 (by decide) (fun _ => ?_) (fun h => absurd rfl h)
  exact hk X μ (fd.RO hR1) hK0 (hC1.m hK0 fd.1) (hM1.q hK0 fd)
theorem lw_c37 (hX : LX p s m args c D cA ad b L xs) (hcs : cells ≤ room_1.cells ∧ slots ≤ room_1.slots) (hi : i + 8 ≤ L) (hR : RO σ) (hK0 : XK X) (hC : CI σ X) (hM : MI σ X) (hk : ∀ (X : XS) (μ : AS), RO μ → XK X → CI μ X → MI μ X → GX p l e room_1 s m args below meth c Q D cA ad 7 cells slots 1645 (LV i) [] μ) : GX p l e room_1 s m args below meth c Q D cA ad 7 cells slots 1518 (LV i) [] σ := by
  refine gx_aload_n hX.1 dL_law_1518 rfl ?_
  refine gx_scr (k := 1) hX hi (by decide) rfl dL_law_1519 dL_law_1520 dL_law_1522 dL_law_1523 dL_law_1524 ?_
  refine gx_callV (d := 40) (as := [_]) hX.1 ⟨by decide, by decide, hcs.1, hcs.2⟩ wL_184 dL_law_1525 rfl rfl rfl rfl (Nat.le_of_ble_eq_true rfl) (ct_X11_trend hR hK0 hC (r32 _) (fun τ fr => ?_))
  have hR1 := fr.RO hR
  have hM1 := hM.c fr.fc
  have hC1 := hC.q hK0 fr
  refine gx_aload_n hX.1 dL_law_1528 rfl ?_
  refine gx_scr (k := 1) hX hi (by decide) rfl dL_law_1529 dL_law_1530 dL_law_1532 dL_law_1533 dL_law_1534 ?_
  refine gx_callV (d := 40) (as := [_]) hX.1 ⟨by decide, by decide, hcs.1, hcs.2⟩ wL_187 dL_law_1535 rfl rfl rfl rfl (Nat.le_of_ble_eq_true rfl) (ct_X12_trend hR1 hK0 hM1 (r32 _) (fun μ fd => ?_))
  refine gx_icmp_eq (tgt := 1645) hX.1 dL_law_1538 (by decide) (fun _ => ?_) (fun h => absurd rfl h)
  exact hk X μ (fd.RO hR1) hK0 (hC1.m hK0 fd.1) (hM1.q hK0 fd)
theorem lw_c38 (hX : LX p s m args c D cA ad b L xs) (hcs : cells ≤ room_1.cells ∧ slots ≤ room_1.slots) (hi : i + 8 ≤ L) (hR : RO σ) (hK0 : XK X) (hC : CI σ X) (hM : MI σ X) (hk : ∀ (X : XS) (μ : AS), RO μ → XK X → CI μ X → MI μ X → GX p l e room_1 s m args below meth c Q D cA ad 7 cells slots 1645 (LV i) [] μ) : GX p l e room_1 s m args below meth c Q D cA ad 7 cells slots 1543 (LV i) [] σ := by
  refine gx_aload_n hX.1 dL_law_1543 rfl ?_
  refine gx_callV (d := 40) (as := []) hX.1 ⟨by decide, by decide, hcs.1, hcs.2⟩ wL_188 dL_law_1544 rfl rfl rfl rfl (Nat.le_of_ble_eq_true rfl) (ct_X11_shares hR hK0 hC  (fun τ fr => ?_))
  have hR1 := fr.RO hR
  have hM1 := hM.c fr.fc
  have hC1 := hC.q hK0 fr
  refine gx_aload_n hX.1 dL_law_1547 rfl ?_
  refine gx_callV (d := 40) (as := []) hX.1 ⟨by decide, by decide, hcs.1, hcs.2⟩ wL_191 dL_law_1548 rfl rfl rfl rfl (Nat.le_of_ble_eq_true rfl) (ct_X12_shares hR1 hK0 hM1  (fun μ fd => ?_))
  refine gx_icmp_eq (tgt := 1645) hX.1 dL_law_1551 (by decide) (fun _ => ?_) (fun h => absurd rfl h)
  exact hk X μ (fd.RO hR1) hK0 (hC1.m hK0 fd.1) (hM1.q hK0 fd)
theorem lw_c39 (hX : LX p s m args c D cA ad b L xs) (hcs : cells ≤ room_1.cells ∧ slots ≤ room_1.slots) (hi : i + 8 ≤ L) (hR : RO σ) (hK0 : XK X) (hC : CI σ X) (hM : MI σ X) (hk : ∀ (X : XS) (μ : AS), RO μ → XK X → CI μ X → MI μ X → GX p l e room_1 s m args below meth c Q D cA ad 7 cells slots 1645 (LV i) [] μ) : GX p l e room_1 s m args below meth c Q D cA ad 7 cells slots 1556 (LV i) [] σ := by
  refine gx_aload_n hX.1 dL_law_1556 rfl ?_
  refine gx_callV (d := 40) (as := []) hX.1 ⟨by decide, by decide, hcs.1, hcs.2⟩ wL_192 dL_law_1557 rfl rfl rfl rfl (Nat.le_of_ble_eq_true rfl) (ct_X11_largest hR hK0 hC  (fun τ fr => ?_))
  have hR1 := fr.RO hR
  have hM1 := hM.c fr.fc
  have hC1 := hC.q hK0 fr
  refine gx_aload_n hX.1 dL_law_1560 rfl ?_
  refine gx_callV (d := 40) (as := []) hX.1 ⟨by decide, by decide, hcs.1, hcs.2⟩ wL_195 dL_law_1561 rfl rfl rfl rfl (Nat.le_of_ble_eq_true rfl) (ct_X12_largest hR1 hK0 hM1  (fun μ fd => ?_))
  refine gx_icmp_eq (tgt := 1645) hX.1 dL_law_1564 (by decide) (fun _ => ?_) (fun h => absurd rfl h)
  exact hk X μ (fd.RO hR1) hK0 (hC1.m hK0 fd.1) (hM1.q hK0 fd)
theorem lw_c40 (hX : LX p s m args c D cA ad b L xs) (hcs : cells ≤ room_1.cells ∧ slots ≤ room_1.slots) (hi : i + 8 ≤ L) (hR : RO σ) (hK0 : XK X) (hC : CI σ X) (hM : MI σ X) (hk : ∀ (X : XS) (μ : AS), RO μ → XK X → CI μ X → MI μ X → GX p l e room_1 s m args below meth c Q D cA ad 7 cells slots 1645 (LV i) [] μ) : GX p l e room_1 s m args below meth c Q D cA ad 7 cells slots 1569 (LV i) [] σ := by
  refine gx_aload_n hX.1 dL_law_1569 rfl ?_
  refine gx_scr (k := 1) hX hi (by decide) rfl dL_law_1570 dL_law_1571 dL_law_1573 dL_law_1574 dL_law_1575 ?_
  refine gx_callV (d := 40) (as := [_]) hX.1 ⟨by decide, by decide, hcs.1, hcs.2⟩ wL_196 dL_law_1576 rfl rfl rfl rfl (Nat.le_of_ble_eq_true rfl) (ct_X11_eaten hR hK0 hC (r32 _) (fun τ fr => ?_))
  have hR1 := fr.RO hR
  have hM1 := hM.c fr.fc
  have hC1 := hC.q hK0 fr
  refine gx_aload_n hX.1 dL_law_1579 rfl ?_
  refine gx_scr (k := 1) hX hi (by decide) rfl dL_law_1580 dL_law_1581 dL_law_1583 dL_law_1584 dL_law_1585 ?_
  refine gx_callV (d := 40) (as := [_]) hX.1 ⟨by decide, by decide, hcs.1, hcs.2⟩ wL_199 dL_law_1586 rfl rfl rfl rfl (Nat.le_of_ble_eq_true rfl) (ct_X12_eaten hR1 hK0 hM1 (r32 _) (fun μ fd => ?_))
  refine gx_icmp_eq (tgt := 1645) hX.1 dL_law_1589 (by decide) (fun _ => ?_) (fun h => absurd rfl h)
  exact hk X μ (fd.RO hR1) hK0 (hC1.m hK0 fd.1) (hM1.q hK0 fd)
theorem lw_c41 (hX : LX p s m args c D cA ad b L xs) (hcs : cells ≤ room_1.cells ∧ slots ≤ room_1.slots) (hi : i + 8 ≤ L) (hR : RO σ) (hK0 : XK X) (hC : CI σ X) (hM : MI σ X) (hk : ∀ (X : XS) (μ : AS), RO μ → XK X → CI μ X → MI μ X → GX p l e room_1 s m args below meth c Q D cA ad 7 cells slots 1645 (LV i) [] μ) : GX p l e room_1 s m args below meth c Q D cA ad 7 cells slots 1594 (LV i) [] σ := by
  refine gx_aload_n hX.1 dL_law_1594 rfl ?_
  refine gx_callV (d := 40) (as := []) hX.1 ⟨by decide, by decide, hcs.1, hcs.2⟩ wL_200 dL_law_1595 rfl rfl rfl rfl (Nat.le_of_ble_eq_true rfl) (ct_X11_image hR hK0 hC  (fun τ fr hC1 => ?_))
  have hR1 := fr.RO hR
  have hM1 := hM.c fr
  refine gx_aload_n hX.1 dL_law_1598 rfl ?_
  refine gx_callV (d := 40) (as := []) hX.1 ⟨by decide, by decide, hcs.1, hcs.2⟩ wL_203 dL_law_1599 rfl rfl rfl rfl (Nat.le_of_ble_eq_true rfl) (ct_X12_image hR1 hK0 hM1  (fun μ fd hM2 => ?_))
  refine gx_icmp_eq (tgt := 1645) hX.1 dL_law_1602 (by decide) (fun _ => ?_) (fun h => absurd rfl h)
  exact hk _ μ (fd.RO hR1) (imgK hK0) (hC1.m (imgK hK0) fd) hM2
theorem lw_c42 (hX : LX p s m args c D cA ad b L xs) (hcs : cells ≤ room_1.cells ∧ slots ≤ room_1.slots) (hi : i + 8 ≤ L) (hR : RO σ) (hK0 : XK X) (hC : CI σ X) (hM : MI σ X) (hk : ∀ (X : XS) (μ : AS), RO μ → XK X → CI μ X → MI μ X → GX p l e room_1 s m args below meth c Q D cA ad 7 cells slots 1645 (LV i) [] μ) : GX p l e room_1 s m args below meth c Q D cA ad 7 cells slots 1607 (LV i) [] σ := by
  refine gx_aload_n hX.1 dL_law_1607 rfl ?_
  refine gx_callV (d := 40) (as := []) hX.1 ⟨by decide, by decide, hcs.1, hcs.2⟩ wL_204 dL_law_1608 rfl rfl rfl rfl (Nat.le_of_ble_eq_true rfl) (ct_X11_back hR hK0 hC  (fun τ fr hC1 => ?_))
  have hR1 := fr.RO hR
  have hM1 := hM.c fr
  refine gx_aload_n hX.1 dL_law_1611 rfl ?_
  refine gx_callV (d := 40) (as := []) hX.1 ⟨by decide, by decide, hcs.1, hcs.2⟩ wL_207 dL_law_1612 rfl rfl rfl rfl (Nat.le_of_ble_eq_true rfl) (ct_X12_back hR1 hK0 hM1  (fun μ fd hM2 => ?_))
  refine gx_icmp_eq (tgt := 1645) hX.1 dL_law_1615 (by decide) (fun _ => ?_) (fun h => absurd rfl h)
  exact hk _ μ (fd.RO hR1) (bckK hK0) (hC1.m (bckK hK0) fd) hM2
theorem lw_c43 (hX : LX p s m args c D cA ad b L xs) (hcs : cells ≤ room_1.cells ∧ slots ≤ room_1.slots) (hi : i + 8 ≤ L) (hR : RO σ) (hK0 : XK X) (hC : CI σ X) (hM : MI σ X) (hk : ∀ (X : XS) (μ : AS), RO μ → XK X → CI μ X → MI μ X → GX p l e room_1 s m args below meth c Q D cA ad 7 cells slots 1645 (LV i) [] μ) : GX p l e room_1 s m args below meth c Q D cA ad 7 cells slots 1620 (LV i) [] σ := by
  refine gx_aload_n hX.1 dL_law_1620 rfl ?_
  refine gx_scr (k := 1) hX hi (by decide) rfl dL_law_1621 dL_law_1622 dL_law_1624 dL_law_1625 dL_law_1626 ?_
  refine gx_callV (d := 40) (as := [_]) hX.1 ⟨by decide, by decide, hcs.1, hcs.2⟩ wL_208 dL_law_1627 rfl rfl rfl rfl (Nat.le_of_ble_eq_true rfl) (ct_X11_count hR hK0 hC (r32 _) (fun τ fr => ?_))
  have hR1 := fr.RO hR
  have hM1 := hM.c fr.fc
  have hC1 := hC.q hK0 fr
  refine gx_aload_n hX.1 dL_law_1630 rfl ?_
  refine gx_scr (k := 1) hX hi (by decide) rfl dL_law_1631 dL_law_1632 dL_law_1634 dL_law_1635 dL_law_1636 ?_
  refine gx_callV (d := 40) (as := [_]) hX.1 ⟨by decide, by decide, hcs.1, hcs.2⟩ wL_211 dL_law_1637 rfl rfl rfl rfl (Nat.le_of_ble_eq_true rfl) (ct_X12_count hR1 hK0 hM1 (r32 _) (fun μ fd => ?_))
  refine gx_icmp_eq (tgt := 1645) hX.1 dL_law_1640 (by decide) (fun _ => ?_) (fun h => absurd rfl h)
  exact hk X μ (fd.RO hR1) hK0 (hC1.m hK0 fd.1) (hM1.q hK0 fd)
end LAW
