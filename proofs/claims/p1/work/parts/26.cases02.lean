theorem dL_law_396 : decode cL_law 396 = .ok (.aload_n 1, 1) := by decide +kernel
theorem dL_law_397 : decode cL_law 397 = .ok (.aload_n 0, 1) := by decide +kernel
theorem dL_law_398 : decode cL_law 398 = .ok (.iload 4, 2) := by decide +kernel
theorem dL_law_400 : decode cL_law 400 = .ok (.iconst 1, 1) := by decide +kernel
theorem dL_law_401 : decode cL_law 401 = .ok (.iadd, 1) := by decide +kernel
theorem dL_law_402 : decode cL_law 402 = .ok (.iaload, 1) := by decide +kernel
theorem dL_law_403 : decode cL_law 403 = .ok (.aload_n 0, 1) := by decide +kernel
theorem dL_law_404 : decode cL_law 404 = .ok (.iload 4, 2) := by decide +kernel
theorem dL_law_406 : decode cL_law 406 = .ok (.iconst 2, 1) := by decide +kernel
theorem dL_law_407 : decode cL_law 407 = .ok (.iadd, 1) := by decide +kernel
theorem dL_law_408 : decode cL_law 408 = .ok (.iaload, 1) := by decide +kernel
theorem dL_law_409 : decode cL_law 409 = .ok (.aload_n 0, 1) := by decide +kernel
theorem dL_law_410 : decode cL_law 410 = .ok (.iload 4, 2) := by decide +kernel
theorem dL_law_412 : decode cL_law 412 = .ok (.iconst 3, 1) := by decide +kernel
theorem dL_law_413 : decode cL_law 413 = .ok (.iadd, 1) := by decide +kernel
theorem dL_law_414 : decode cL_law 414 = .ok (.iaload, 1) := by decide +kernel
theorem dL_law_415 : decode cL_law 415 = .ok (.i2l, 1) := by decide +kernel
theorem dL_law_416 : decode cL_law 416 = .ok (.bipush 32, 2) := by decide +kernel
theorem dL_law_418 : decode cL_law 418 = .ok (.lshl, 1) := by decide +kernel
theorem dL_law_419 : decode cL_law 419 = .ok (.aload_n 0, 1) := by decide +kernel
theorem dL_law_420 : decode cL_law 420 = .ok (.iload 4, 2) := by decide +kernel
theorem dL_law_422 : decode cL_law 422 = .ok (.iconst 4, 1) := by decide +kernel
theorem dL_law_423 : decode cL_law 423 = .ok (.iadd, 1) := by decide +kernel
theorem dL_law_424 : decode cL_law 424 = .ok (.iaload, 1) := by decide +kernel
theorem dL_law_425 : decode cL_law 425 = .ok (.i2l, 1) := by decide +kernel
theorem dL_law_426 : decode cL_law 426 = .ok (.ldc2_w 161, 3) := by decide +kernel
theorem dL_law_429 : decode cL_law 429 = .ok (.land, 1) := by decide +kernel
theorem dL_law_430 : decode cL_law 430 = .ok (.lor, 1) := by decide +kernel
theorem dL_law_431 : decode cL_law 431 = .ok (.aload_n 3, 1) := by decide +kernel
theorem dL_law_432 : decode cL_law 432 = .ok (.invokestatic 163, 3) := by decide +kernel
theorem dL_law_435 : decode cL_law 435 = .ok (.istore 5, 2) := by decide +kernel
theorem dL_law_437 : decode cL_law 437 = .ok (.aload_n 2, 1) := by decide +kernel
theorem dL_law_438 : decode cL_law 438 = .ok (.aload_n 0, 1) := by decide +kernel
theorem dL_law_439 : decode cL_law 439 = .ok (.iload 4, 2) := by decide +kernel
theorem dL_law_441 : decode cL_law 441 = .ok (.iconst 1, 1) := by decide +kernel
theorem dL_law_442 : decode cL_law 442 = .ok (.iadd, 1) := by decide +kernel
theorem dL_law_443 : decode cL_law 443 = .ok (.iaload, 1) := by decide +kernel
theorem dL_law_444 : decode cL_law 444 = .ok (.aload_n 0, 1) := by decide +kernel
theorem dL_law_445 : decode cL_law 445 = .ok (.iload 4, 2) := by decide +kernel
theorem dL_law_447 : decode cL_law 447 = .ok (.iconst 2, 1) := by decide +kernel
theorem dL_law_448 : decode cL_law 448 = .ok (.iadd, 1) := by decide +kernel
theorem dL_law_449 : decode cL_law 449 = .ok (.iaload, 1) := by decide +kernel
theorem dL_law_450 : decode cL_law 450 = .ok (.aload_n 0, 1) := by decide +kernel
theorem dL_law_451 : decode cL_law 451 = .ok (.iload 4, 2) := by decide +kernel
theorem dL_law_453 : decode cL_law 453 = .ok (.iconst 3, 1) := by decide +kernel
theorem dL_law_454 : decode cL_law 454 = .ok (.iadd, 1) := by decide +kernel
theorem dL_law_455 : decode cL_law 455 = .ok (.iaload, 1) := by decide +kernel
theorem dL_law_456 : decode cL_law 456 = .ok (.i2l, 1) := by decide +kernel
theorem dL_law_457 : decode cL_law 457 = .ok (.bipush 32, 2) := by decide +kernel
theorem dL_law_459 : decode cL_law 459 = .ok (.lshl, 1) := by decide +kernel
theorem dL_law_460 : decode cL_law 460 = .ok (.aload_n 0, 1) := by decide +kernel
theorem dL_law_461 : decode cL_law 461 = .ok (.iload 4, 2) := by decide +kernel
theorem dL_law_463 : decode cL_law 463 = .ok (.iconst 4, 1) := by decide +kernel
theorem dL_law_464 : decode cL_law 464 = .ok (.iadd, 1) := by decide +kernel
theorem dL_law_465 : decode cL_law 465 = .ok (.iaload, 1) := by decide +kernel
theorem dL_law_466 : decode cL_law 466 = .ok (.i2l, 1) := by decide +kernel
theorem dL_law_467 : decode cL_law 467 = .ok (.ldc2_w 161, 3) := by decide +kernel
theorem dL_law_470 : decode cL_law 470 = .ok (.land, 1) := by decide +kernel
theorem dL_law_471 : decode cL_law 471 = .ok (.lor, 1) := by decide +kernel
theorem dL_law_472 : decode cL_law 472 = .ok (.invokevirtual 166, 3) := by decide +kernel
theorem dL_law_475 : decode cL_law 475 = .ok (.istore 6, 2) := by decide +kernel
theorem dL_law_477 : decode cL_law 477 = .ok (.aload_n 2, 1) := by decide +kernel
theorem dL_law_478 : decode cL_law 478 = .ok (.invokevirtual 147, 3) := by decide +kernel
theorem dL_law_481 : decode cL_law 481 = .ok (.iload 5, 2) := by decide +kernel
theorem dL_law_483 : decode cL_law 483 = .ok (.if_icmp .eq 5, 3) := by decide +kernel
theorem dL_law_488 : decode cL_law 488 = .ok (.iload 5, 2) := by decide +kernel
theorem dL_law_490 : decode cL_law 490 = .ok (.ifCond .ne 15, 3) := by decide +kernel
theorem dL_law_505 : decode cL_law 505 = .ok (.goto 2435, 3) := by decide +kernel
set_option maxRecDepth 100000 in
set_option maxHeartbeats 4000000 in
theorem lc_add {p : Program} {l : Launch} {e : Env} {mc ms : Nat} {s : State} {m : MethodId} {below : List Frame} {meth : Method} {c : Code} {H : Heap} {locs : List Loc} {cells slots : Nat} {Q : State → Prop} {rt0 : Option FieldType} {nm0 : String} {D : va_G} {cy : Nat → ClassId} {N0 : Nat} {tb : List ExceptionTableEntry} {h : qH} {ls : Array Slot} {b : Nat} {xs : Nat → Int32} {x sl bl kr vr : Nat} {hm ed : Int32} {f g : Nat → Option Nat} {y ms_ mb mw od pt fi re rc rs so ot cn la ro : Nat} {gr : Int32} {f2 g2 : Nat → Option Nat} {o : Nat} {fo : Nat → Int64} (C : qX p l s m #[Value.ref b] meth c RL cL_law 8 rt0 nm0 D cy N0 tb) (hX : va_X b 8 xs s s.heap) (hbl0 : b < s.heap.size) (hbA : ¬ qA N0 b) (hP : qP D N0 h H) (hS : va_S (qA N0) s.heap H locs) (hcm : cells + 20 ≤ mc) (hsm : slots + 200 ≤ ms) (hT : h x = some (.inr (6, [.int hm, .ref sl, .ref bl, .ref kr, .ref vr, .int 0, .int 0, .int ed]))) (hsl : h sl = some (.inl (cy 3, 24, .inr (.inr (.inr (.inr f)))))) (hF : ∀ i, i < 24 → f i = none) (hbl : h bl = some (.inl (cy 2, 4, .inr (.inr (.inr (.inr g)))))) (hB : ∀ j, j < 4 → ∃ (b rw : Nat) (kd ln e2 : Int32) (rt : Option Nat), qBd h g j b rw 0 kd ln e2 rt) (hY : h y = some (.inr (8, [.ref ms_, .ref mb, .ref mw, .int gr, .int 0, .int 0, .int 0, .ref od, .ref pt, .int 0, .int 0, .ref fi, .ref re, .int (nI 1), .ref rc, .ref rs, .ref so, .ref ot, .ref cn, .ref la, .int (nI 1), .ref ro, .int 0]))) (hms : h ms_ = some (.inl (cy 5, 24, .inr (.inr (.inr (.inr f2)))))) (hmb : h mb = some (.inl (cy 5, 4, .inr (.inr (.inr (.inr g2)))))) (hR : qRo h f2 24) (hRB : qRo h g2 4) (ho : h o = some (.inl (cy 1, 1, .inr (.inl fo)))) (hfi : h fi = some (.inl (cy 1, 1024, .inr (.inl (fun _ => 0))))) (hre : h re = some (.inl (cy 0, 1024, .inl (fun _ => 0)))) (hrc : h rc = some (.inl (cy 0, 1024, .inl (fun _ => 0)))) (hso : h so = some (.inl (cy 0, 1024, .inl (fun _ => 0)))) (hot : h ot = some (.inl (cy 0, 1024, .inl (fun _ => 0)))) (hcn : h cn = some (.inl (cy 1, 1024, .inr (.inl (fun _ => 0))))) (hla : h la = some (.inl (cy 1, 1024, .inr (.inl (fun _ => 0))))) (n_so_rc : rc ≠ so) (n_ot_rc : rc ≠ ot) (n_rc_re : re ≠ rc) (n_ot_so : so ≠ ot) (n_so_re : re ≠ so) (n_ot_re : re ≠ ot) (n_la_cn : cn ≠ la) (n_cn_fi : fi ≠ cn) (n_la_fi : fi ≠ la) (n_ms_sl : ms_ ≠ sl) (n_mb_sl : mb ≠ sl) (hl : lv_has ls 8 [(4, .int 1), (3, .ref o), (2, .ref y), (1, .ref x), (0, .ref b)]) (kend : ∀ (ls : Array Slot) (H : Heap) (locs : List Loc) (ce sl : Nat), ce ≤ cells + 20 → sl ≤ slots + 200 → va_S (qA N0) s.heap H locs → lv_has ls 8 [(4, .int 1), (0, .ref b)] → W p l e (qR 2048 84000 mc ms) s m #[Value.ref b] below meth c H locs ce sl Q (F0 m 2940 ls [])) : W p l e (qR 2048 84000 mc ms) s m #[Value.ref b] below meth c H locs cells slots Q (F0 m 396 ls []) := by
  have hx := C.1
  have hb := C.2.1
  refine lv_aload_n hx hb dL_law_396 rfl (lv_at hl 3 rfl) ?_
  refine lv_aload_n hx hb dL_law_397 rfl (lv_at hl 4 rfl) ?_
  refine lv_iload hx hb dL_law_398 (lv_at hl 0 rfl) ?_
  refine lv_iconst (v := 1) hx hb dL_law_400 (by decide) ?_
  refine lv_iadd hx hb dL_law_401 ?_
  refine va_sld hx hb hX hbl0 hbA hS (by unfold vp_in; decide) dL_law_402 ?_
  refine lv_topi (fun s1 es1 => ?_)
  refine lv_aload_n hx hb dL_law_403 rfl (lv_at hl 4 rfl) ?_
  refine lv_iload hx hb dL_law_404 (lv_at hl 0 rfl) ?_
  refine lv_iconst (v := 2) hx hb dL_law_406 (by decide) ?_
  refine lv_iadd hx hb dL_law_407 ?_
  refine va_sld hx hb hX hbl0 hbA hS (by unfold vp_in; decide) dL_law_408 ?_
  refine lv_topi (fun s2 es2 => ?_)
  refine lv_aload_n hx hb dL_law_409 rfl (lv_at hl 4 rfl) ?_
  refine lv_iload hx hb dL_law_410 (lv_at hl 0 rfl) ?_
  refine lv_iconst (v := 3) hx hb dL_law_412 (by decide) ?_
  refine lv_iadd hx hb dL_law_413 ?_
  refine va_sld hx hb hX hbl0 hbA hS (by unfold vp_in; decide) dL_law_414 ?_
  refine lv_topi (fun s3 es3 => ?_)
  refine lv_i2l hx hb dL_law_415 rfl ?_
  refine lv_bipush (v := 32) hx hb dL_law_416 (by decide) ?_
  refine lv_lshl hx hb dL_law_418 rfl ?_
  refine lv_aload_n hx hb dL_law_419 rfl (lv_at hl 4 rfl) ?_
  refine lv_iload hx hb dL_law_420 (lv_at hl 0 rfl) ?_
  refine lv_iconst (v := 4) hx hb dL_law_422 (by decide) ?_
  refine lv_iadd hx hb dL_law_423 ?_
  refine va_sld hx hb hX hbl0 hbA hS (by unfold vp_in; decide) dL_law_424 ?_
  refine lv_topi (fun s4 es4 => ?_)
  refine lv_i2l hx hb dL_law_425 rfl ?_
  refine lv_ldc2 hx hb C.2.2.2.2.1 (C.2.2.2.2.2.1 _ g1484) dL_law_426 ?_
  refine lv_land hx hb dL_law_429 ?_
  refine lv_lor hx hb dL_law_430 ?_
  refine lv_topl (fun q3 eq3 => ?_)
  refine lv_aload_n hx hb dL_law_431 rfl (lv_at hl 1 rfl) ?_
  refine q_callSW (rest := []) C (c_L_add_0 l D cy N0 (h) x sl bl kr vr hm 0 0 ed f s1 s2 q3 o hT hsl hF) kwL_add g277 g278 hP hS (by omega) hl.1 rfl (by decide) (by omega) dL_law_432 (fun v hh1 H locs hq hP hS => ?_)
  obtain ⟨rfl, hq⟩ := hq
  rcases hq with ⟨rfl, gA⟩ | ⟨rfl, gA⟩
  · refine lv_istore (lv' := [(5, .int 1), (4, .int 1), (3, .ref o), (2, .ref y), (1, .ref x), (0, .ref b)]) hx hb dL_law_435 hl (by decide) rfl (fun ls hl => ?_)
    refine lv_aload_n hx hb dL_law_437 rfl (lv_at hl 3 rfl) ?_
    refine lv_aload_n hx hb dL_law_438 rfl (lv_at hl 5 rfl) ?_
    refine lv_iload hx hb dL_law_439 (lv_at hl 1 rfl) ?_
    refine lv_iconst (v := 1) hx hb dL_law_441 (by decide) ?_
    refine lv_iadd hx hb dL_law_442 ?_
    refine va_sld hx hb hX hbl0 hbA hS (by unfold vp_in; decide) dL_law_443 ?_
    rw [← es1]
    refine lv_aload_n hx hb dL_law_444 rfl (lv_at hl 5 rfl) ?_
    refine lv_iload hx hb dL_law_445 (lv_at hl 1 rfl) ?_
    refine lv_iconst (v := 2) hx hb dL_law_447 (by decide) ?_
    refine lv_iadd hx hb dL_law_448 ?_
    refine va_sld hx hb hX hbl0 hbA hS (by unfold vp_in; decide) dL_law_449 ?_
    rw [← es2]
    refine lv_aload_n hx hb dL_law_450 rfl (lv_at hl 5 rfl) ?_
    refine lv_iload hx hb dL_law_451 (lv_at hl 1 rfl) ?_
    refine lv_iconst (v := 3) hx hb dL_law_453 (by decide) ?_
    refine lv_iadd hx hb dL_law_454 ?_
    refine va_sld hx hb hX hbl0 hbA hS (by unfold vp_in; decide) dL_law_455 ?_
    rw [← es3]
    refine lv_i2l hx hb dL_law_456 rfl ?_
    refine lv_bipush (v := 32) hx hb dL_law_457 (by decide) ?_
    refine lv_lshl hx hb dL_law_459 rfl ?_
    refine lv_aload_n hx hb dL_law_460 rfl (lv_at hl 5 rfl) ?_
    refine lv_iload hx hb dL_law_461 (lv_at hl 1 rfl) ?_
    refine lv_iconst (v := 4) hx hb dL_law_463 (by decide) ?_
    refine lv_iadd hx hb dL_law_464 ?_
    refine va_sld hx hb hX hbl0 hbA hS (by unfold vp_in; decide) dL_law_465 ?_
    rw [← es4]
    refine lv_i2l hx hb dL_law_466 rfl ?_
    refine lv_ldc2 hx hb C.2.2.2.2.1 (C.2.2.2.2.2.1 _ g1484) dL_law_467 ?_
    refine lv_land hx hb dL_law_470 ?_
    refine lv_lor hx hb dL_law_471 ?_
    rw [← eq3]
    refine q_callV (rest := []) C (c_X8_add_0 l D cy N0 (h) y ms_ mb mw od pt fi re rc rs so ot cn la ro gr 0 0 0 0 0 (nI 1) (nI 1) 0 f2 g2 s1 s2 q3 hY hms hmb hR hRB) kX8_add g1272 g1273 rfl g1274 g4 hP hS hY (by first | decide | omega) hl.1 rfl (by decide) (by first | decide | omega) dL_law_472 (fun q ce E h' H1 locs1 hE => hE.elim) (fun v hh2 H locs hq hP hS => ?_)
    obtain ⟨cd', rfl, rfl, hq⟩ := hq
    rcases hq with ⟨gB, rfl⟩ | ⟨gB, rfl⟩
    · replace hT := (qs_ne (h := h) (a := y) (o := (.inr (8, [.ref ms_, .ref mb, .ref mw, .int gr, .int 1, .int 0, .int 0, .ref od, .ref pt, .int 0, .int 0, .ref fi, .ref re, .int (nI 1), .ref rc, .ref rs, .ref so, .ref ot, .ref cn, .ref la, .int (nI 1), .ref ro, .int 0]))) (fun q => by subst q; have := hT.symm.trans hY; first | cases this | simp at this)).trans hT
      replace hsl := (qs_ne (h := h) (a := y) (o := (.inr (8, [.ref ms_, .ref mb, .ref mw, .int gr, .int 1, .int 0, .int 0, .ref od, .ref pt, .int 0, .int 0, .ref fi, .ref re, .int (nI 1), .ref rc, .ref rs, .ref so, .ref ot, .ref cn, .ref la, .int (nI 1), .ref ro, .int 0]))) (fun q => by subst q; have := hsl.symm.trans hY; first | cases this | simp at this)).trans hsl
      replace ho := (qs_ne (h := h) (a := y) (o := (.inr (8, [.ref ms_, .ref mb, .ref mw, .int gr, .int 1, .int 0, .int 0, .ref od, .ref pt, .int 0, .int 0, .ref fi, .ref re, .int (nI 1), .ref rc, .ref rs, .ref so, .ref ot, .ref cn, .ref la, .int (nI 1), .ref ro, .int 0]))) (fun q => by subst q; have := ho.symm.trans hY; first | cases this | simp at this)).trans ho
      replace hY : (qs h y (.inr (8, [.ref ms_, .ref mb, .ref mw, .int gr, .int 1, .int 0, .int 0, .ref od, .ref pt, .int 0, .int 0, .ref fi, .ref re, .int (nI 1), .ref rc, .ref rs, .ref so, .ref ot, .ref cn, .ref la, .int (nI 1), .ref ro, .int 0]))) y = some (.inr (8, [.ref ms_, .ref mb, .ref mw, .int gr, .int 1, .int 0, .int 0, .ref od, .ref pt, .int 0, .int 0, .ref fi, .ref re, .int (nI 1), .ref rc, .ref rs, .ref so, .ref ot, .ref cn, .ref la, .int (nI 1), .ref ro, .int 0])) := qs_self
      refine lv_istore (lv' := [(6, .int 0), (5, .int 1), (4, .int 1), (3, .ref o), (2, .ref y), (1, .ref x), (0, .ref b)]) hx hb dL_law_475 hl (by decide) rfl (fun ls hl => ?_)
      refine lv_aload_n hx hb dL_law_477 rfl (lv_at hl 4 rfl) ?_
      refine q_callV (rest := []) C (c_X8_thrown l D cy N0 (qs h y (.inr (8, [.ref ms_, .ref mb, .ref mw, .int gr, .int 1, .int 0, .int 0, .ref od, .ref pt, .int 0, .int 0, .ref fi, .ref re, .int (nI 1), .ref rc, .ref rs, .ref so, .ref ot, .ref cn, .ref la, .int (nI 1), .ref ro, .int 0]))) y ms_ mb mw od pt fi re rc rs so ot cn la ro gr 1 0 0 0 0 (nI 1) (nI 1) 0 hY) kX8_thrown g1238 g1239 rfl g1240 g4 hP hS hY (by first | decide | omega) hl.1 rfl (by decide) (by first | decide | omega) dL_law_478 (fun q ce E h' H1 locs1 hE => hE.elim) (fun v hh3 H locs hq hP hS => ?_)
      obtain ⟨rfl, rfl⟩ := hq
      refine lv_iload hx hb dL_law_481 (lv_at hl 1 rfl) ?_
      refine lv_icmp_eq (tgt := 488) hx hb dL_law_483 (by decide) (fun _ => ?_) (fun c9 => absurd rfl c9)
      refine lv_iload hx hb dL_law_488 (lv_at hl 1 rfl) ?_
      refine lv_if_ne (tgt := 505) hx hb dL_law_490 (by decide) (fun _ => ?_) (fun c => absurd c (by decide))
      refine lv_goto (tgt := 2940) hx hb dL_law_505 (by decide) ?_
      exact kend ls H locs _ _ (by omega) (by omega) hS (lv_sub hl [2, 6] rfl)
    · exact absurd gB gA
  · refine lv_istore (lv' := [(5, .int 2), (4, .int 1), (3, .ref o), (2, .ref y), (1, .ref x), (0, .ref b)]) hx hb dL_law_435 hl (by decide) rfl (fun ls hl => ?_)
    refine lv_aload_n hx hb dL_law_437 rfl (lv_at hl 3 rfl) ?_
    refine lv_aload_n hx hb dL_law_438 rfl (lv_at hl 5 rfl) ?_
    refine lv_iload hx hb dL_law_439 (lv_at hl 1 rfl) ?_
    refine lv_iconst (v := 1) hx hb dL_law_441 (by decide) ?_
    refine lv_iadd hx hb dL_law_442 ?_
    refine va_sld hx hb hX hbl0 hbA hS (by unfold vp_in; decide) dL_law_443 ?_
    rw [← es1]
    refine lv_aload_n hx hb dL_law_444 rfl (lv_at hl 5 rfl) ?_
    refine lv_iload hx hb dL_law_445 (lv_at hl 1 rfl) ?_
    refine lv_iconst (v := 2) hx hb dL_law_447 (by decide) ?_
    refine lv_iadd hx hb dL_law_448 ?_
    refine va_sld hx hb hX hbl0 hbA hS (by unfold vp_in; decide) dL_law_449 ?_
    rw [← es2]
    refine lv_aload_n hx hb dL_law_450 rfl (lv_at hl 5 rfl) ?_
    refine lv_iload hx hb dL_law_451 (lv_at hl 1 rfl) ?_
    refine lv_iconst (v := 3) hx hb dL_law_453 (by decide) ?_
    refine lv_iadd hx hb dL_law_454 ?_
    refine va_sld hx hb hX hbl0 hbA hS (by unfold vp_in; decide) dL_law_455 ?_
    rw [← es3]
    refine lv_i2l hx hb dL_law_456 rfl ?_
    refine lv_bipush (v := 32) hx hb dL_law_457 (by decide) ?_
    refine lv_lshl hx hb dL_law_459 rfl ?_
    refine lv_aload_n hx hb dL_law_460 rfl (lv_at hl 5 rfl) ?_
    refine lv_iload hx hb dL_law_461 (lv_at hl 1 rfl) ?_
    refine lv_iconst (v := 4) hx hb dL_law_463 (by decide) ?_
    refine lv_iadd hx hb dL_law_464 ?_
    refine va_sld hx hb hX hbl0 hbA hS (by unfold vp_in; decide) dL_law_465 ?_
    rw [← es4]
    refine lv_i2l hx hb dL_law_466 rfl ?_
    refine lv_ldc2 hx hb C.2.2.2.2.1 (C.2.2.2.2.2.1 _ g1484) dL_law_467 ?_
    refine lv_land hx hb dL_law_470 ?_
    refine lv_lor hx hb dL_law_471 ?_
    rw [← eq3]
    refine q_callV (rest := []) C (c_X8_add_0 l D cy N0 (h) y ms_ mb mw od pt fi re rc rs so ot cn la ro gr 0 0 0 0 0 (nI 1) (nI 1) 0 f2 g2 s1 s2 q3 hY hms hmb hR hRB) kX8_add g1272 g1273 rfl g1274 g4 hP hS hY (by first | decide | omega) hl.1 rfl (by decide) (by first | decide | omega) dL_law_472 (fun q ce E h' H1 locs1 hE => hE.elim) (fun v hh4 H locs hq hP hS => ?_)
    obtain ⟨cd', rfl, rfl, hq⟩ := hq
    rcases hq with ⟨gB, rfl⟩ | ⟨gB, rfl⟩
    · exact absurd gA gB
    · replace hT := (qs_ne (h := h) (a := y) (o := (.inr (8, [.ref ms_, .ref mb, .ref mw, .int gr, .int 2, .int 0, .int 0, .ref od, .ref pt, .int 0, .int 0, .ref fi, .ref re, .int (nI 1), .ref rc, .ref rs, .ref so, .ref ot, .ref cn, .ref la, .int (nI 1), .ref ro, .int 0]))) (fun q => by subst q; have := hT.symm.trans hY; first | cases this | simp at this)).trans hT
      replace hsl := (qs_ne (h := h) (a := y) (o := (.inr (8, [.ref ms_, .ref mb, .ref mw, .int gr, .int 2, .int 0, .int 0, .ref od, .ref pt, .int 0, .int 0, .ref fi, .ref re, .int (nI 1), .ref rc, .ref rs, .ref so, .ref ot, .ref cn, .ref la, .int (nI 1), .ref ro, .int 0]))) (fun q => by subst q; have := hsl.symm.trans hY; first | cases this | simp at this)).trans hsl
      replace ho := (qs_ne (h := h) (a := y) (o := (.inr (8, [.ref ms_, .ref mb, .ref mw, .int gr, .int 2, .int 0, .int 0, .ref od, .ref pt, .int 0, .int 0, .ref fi, .ref re, .int (nI 1), .ref rc, .ref rs, .ref so, .ref ot, .ref cn, .ref la, .int (nI 1), .ref ro, .int 0]))) (fun q => by subst q; have := ho.symm.trans hY; first | cases this | simp at this)).trans ho
      replace hY : (qs h y (.inr (8, [.ref ms_, .ref mb, .ref mw, .int gr, .int 2, .int 0, .int 0, .ref od, .ref pt, .int 0, .int 0, .ref fi, .ref re, .int (nI 1), .ref rc, .ref rs, .ref so, .ref ot, .ref cn, .ref la, .int (nI 1), .ref ro, .int 0]))) y = some (.inr (8, [.ref ms_, .ref mb, .ref mw, .int gr, .int 2, .int 0, .int 0, .ref od, .ref pt, .int 0, .int 0, .ref fi, .ref re, .int (nI 1), .ref rc, .ref rs, .ref so, .ref ot, .ref cn, .ref la, .int (nI 1), .ref ro, .int 0])) := qs_self
      refine lv_istore (lv' := [(6, .int 0), (5, .int 2), (4, .int 1), (3, .ref o), (2, .ref y), (1, .ref x), (0, .ref b)]) hx hb dL_law_475 hl (by decide) rfl (fun ls hl => ?_)
      refine lv_aload_n hx hb dL_law_477 rfl (lv_at hl 4 rfl) ?_
      refine q_callV (rest := []) C (c_X8_thrown l D cy N0 (qs h y (.inr (8, [.ref ms_, .ref mb, .ref mw, .int gr, .int 2, .int 0, .int 0, .ref od, .ref pt, .int 0, .int 0, .ref fi, .ref re, .int (nI 1), .ref rc, .ref rs, .ref so, .ref ot, .ref cn, .ref la, .int (nI 1), .ref ro, .int 0]))) y ms_ mb mw od pt fi re rc rs so ot cn la ro gr 2 0 0 0 0 (nI 1) (nI 1) 0 hY) kX8_thrown g1238 g1239 rfl g1240 g4 hP hS hY (by first | decide | omega) hl.1 rfl (by decide) (by first | decide | omega) dL_law_478 (fun q ce E h' H1 locs1 hE => hE.elim) (fun v hh5 H locs hq hP hS => ?_)
      obtain ⟨rfl, rfl⟩ := hq
      refine lv_iload hx hb dL_law_481 (lv_at hl 1 rfl) ?_
      refine lv_icmp_eq (tgt := 488) hx hb dL_law_483 (by decide) (fun _ => ?_) (fun c9 => absurd rfl c9)
      refine lv_iload hx hb dL_law_488 (lv_at hl 1 rfl) ?_
      refine lv_if_ne (tgt := 505) hx hb dL_law_490 (by decide) (fun _ => ?_) (fun c => absurd c (by decide))
      refine lv_goto (tgt := 2940) hx hb dL_law_505 (by decide) ?_
      exact kend ls H locs _ _ (by omega) (by omega) hS (lv_sub hl [2, 6] rfl)

theorem dL_law_508 : decode cL_law 508 = .ok (.aload_n 1, 1) := by decide +kernel
theorem dL_law_509 : decode cL_law 509 = .ok (.aload_n 0, 1) := by decide +kernel
theorem dL_law_510 : decode cL_law 510 = .ok (.iload 4, 2) := by decide +kernel
theorem dL_law_512 : decode cL_law 512 = .ok (.iconst 1, 1) := by decide +kernel
theorem dL_law_513 : decode cL_law 513 = .ok (.iadd, 1) := by decide +kernel
theorem dL_law_514 : decode cL_law 514 = .ok (.iaload, 1) := by decide +kernel
theorem dL_law_515 : decode cL_law 515 = .ok (.aload_n 0, 1) := by decide +kernel
theorem dL_law_516 : decode cL_law 516 = .ok (.iload 4, 2) := by decide +kernel
theorem dL_law_518 : decode cL_law 518 = .ok (.iconst 2, 1) := by decide +kernel
theorem dL_law_519 : decode cL_law 519 = .ok (.iadd, 1) := by decide +kernel
theorem dL_law_520 : decode cL_law 520 = .ok (.iaload, 1) := by decide +kernel
theorem dL_law_521 : decode cL_law 521 = .ok (.aload_n 0, 1) := by decide +kernel
theorem dL_law_522 : decode cL_law 522 = .ok (.iload 4, 2) := by decide +kernel
theorem dL_law_524 : decode cL_law 524 = .ok (.iconst 3, 1) := by decide +kernel
theorem dL_law_525 : decode cL_law 525 = .ok (.iadd, 1) := by decide +kernel
theorem dL_law_526 : decode cL_law 526 = .ok (.iaload, 1) := by decide +kernel
theorem dL_law_527 : decode cL_law 527 = .ok (.i2l, 1) := by decide +kernel
theorem dL_law_528 : decode cL_law 528 = .ok (.bipush 32, 2) := by decide +kernel
theorem dL_law_530 : decode cL_law 530 = .ok (.lshl, 1) := by decide +kernel
theorem dL_law_531 : decode cL_law 531 = .ok (.aload_n 0, 1) := by decide +kernel
theorem dL_law_532 : decode cL_law 532 = .ok (.iload 4, 2) := by decide +kernel
theorem dL_law_534 : decode cL_law 534 = .ok (.iconst 4, 1) := by decide +kernel
theorem dL_law_535 : decode cL_law 535 = .ok (.iadd, 1) := by decide +kernel
theorem dL_law_536 : decode cL_law 536 = .ok (.iaload, 1) := by decide +kernel
theorem dL_law_537 : decode cL_law 537 = .ok (.i2l, 1) := by decide +kernel
theorem dL_law_538 : decode cL_law 538 = .ok (.ldc2_w 161, 3) := by decide +kernel
theorem dL_law_541 : decode cL_law 541 = .ok (.land, 1) := by decide +kernel
theorem dL_law_542 : decode cL_law 542 = .ok (.lor, 1) := by decide +kernel
theorem dL_law_543 : decode cL_law 543 = .ok (.invokestatic 167, 3) := by decide +kernel
theorem dL_law_546 : decode cL_law 546 = .ok (.istore 5, 2) := by decide +kernel
theorem dL_law_548 : decode cL_law 548 = .ok (.aload_n 2, 1) := by decide +kernel
theorem dL_law_549 : decode cL_law 549 = .ok (.aload_n 0, 1) := by decide +kernel
theorem dL_law_550 : decode cL_law 550 = .ok (.iload 4, 2) := by decide +kernel
theorem dL_law_552 : decode cL_law 552 = .ok (.iconst 1, 1) := by decide +kernel
theorem dL_law_553 : decode cL_law 553 = .ok (.iadd, 1) := by decide +kernel
theorem dL_law_554 : decode cL_law 554 = .ok (.iaload, 1) := by decide +kernel
theorem dL_law_555 : decode cL_law 555 = .ok (.aload_n 0, 1) := by decide +kernel
theorem dL_law_556 : decode cL_law 556 = .ok (.iload 4, 2) := by decide +kernel
theorem dL_law_558 : decode cL_law 558 = .ok (.iconst 2, 1) := by decide +kernel
theorem dL_law_559 : decode cL_law 559 = .ok (.iadd, 1) := by decide +kernel
theorem dL_law_560 : decode cL_law 560 = .ok (.iaload, 1) := by decide +kernel
theorem dL_law_561 : decode cL_law 561 = .ok (.aload_n 0, 1) := by decide +kernel
theorem dL_law_562 : decode cL_law 562 = .ok (.iload 4, 2) := by decide +kernel
theorem dL_law_564 : decode cL_law 564 = .ok (.iconst 3, 1) := by decide +kernel
theorem dL_law_565 : decode cL_law 565 = .ok (.iadd, 1) := by decide +kernel
theorem dL_law_566 : decode cL_law 566 = .ok (.iaload, 1) := by decide +kernel
theorem dL_law_567 : decode cL_law 567 = .ok (.i2l, 1) := by decide +kernel
theorem dL_law_568 : decode cL_law 568 = .ok (.bipush 32, 2) := by decide +kernel
theorem dL_law_570 : decode cL_law 570 = .ok (.lshl, 1) := by decide +kernel
theorem dL_law_571 : decode cL_law 571 = .ok (.aload_n 0, 1) := by decide +kernel
theorem dL_law_572 : decode cL_law 572 = .ok (.iload 4, 2) := by decide +kernel
theorem dL_law_574 : decode cL_law 574 = .ok (.iconst 4, 1) := by decide +kernel
theorem dL_law_575 : decode cL_law 575 = .ok (.iadd, 1) := by decide +kernel
theorem dL_law_576 : decode cL_law 576 = .ok (.iaload, 1) := by decide +kernel
theorem dL_law_577 : decode cL_law 577 = .ok (.i2l, 1) := by decide +kernel
theorem dL_law_578 : decode cL_law 578 = .ok (.ldc2_w 161, 3) := by decide +kernel
theorem dL_law_581 : decode cL_law 581 = .ok (.land, 1) := by decide +kernel
theorem dL_law_582 : decode cL_law 582 = .ok (.lor, 1) := by decide +kernel
theorem dL_law_583 : decode cL_law 583 = .ok (.invokevirtual 170, 3) := by decide +kernel
theorem dL_law_586 : decode cL_law 586 = .ok (.aload_n 2, 1) := by decide +kernel
theorem dL_law_587 : decode cL_law 587 = .ok (.invokevirtual 147, 3) := by decide +kernel
theorem dL_law_590 : decode cL_law 590 = .ok (.iload 5, 2) := by decide +kernel
theorem dL_law_592 : decode cL_law 592 = .ok (.if_icmp .eq 5, 3) := by decide +kernel
theorem dL_law_597 : decode cL_law 597 = .ok (.goto 2343, 3) := by decide +kernel
set_option maxRecDepth 100000 in
set_option maxHeartbeats 4000000 in
theorem lc_push {p : Program} {l : Launch} {e : Env} {mc ms : Nat} {s : State} {m : MethodId} {below : List Frame} {meth : Method} {c : Code} {H : Heap} {locs : List Loc} {cells slots : Nat} {Q : State → Prop} {rt0 : Option FieldType} {nm0 : String} {D : va_G} {cy : Nat → ClassId} {N0 : Nat} {tb : List ExceptionTableEntry} {h : qH} {ls : Array Slot} {b : Nat} {xs : Nat → Int32} {x sl bl kr vr : Nat} {hm ed : Int32} {f g : Nat → Option Nat} {y ms_ mb mw od pt fi re rc rs so ot cn la ro : Nat} {gr : Int32} {f2 g2 : Nat → Option Nat} {o : Nat} {fo : Nat → Int64} (C : qX p l s m #[Value.ref b] meth c RL cL_law 8 rt0 nm0 D cy N0 tb) (hX : va_X b 8 xs s s.heap) (hbl0 : b < s.heap.size) (hbA : ¬ qA N0 b) (hP : qP D N0 h H) (hS : va_S (qA N0) s.heap H locs) (hcm : cells + 20 ≤ mc) (hsm : slots + 200 ≤ ms) (hT : h x = some (.inr (6, [.int hm, .ref sl, .ref bl, .ref kr, .ref vr, .int 0, .int 0, .int ed]))) (hsl : h sl = some (.inl (cy 3, 24, .inr (.inr (.inr (.inr f)))))) (hF : ∀ i, i < 24 → f i = none) (hbl : h bl = some (.inl (cy 2, 4, .inr (.inr (.inr (.inr g)))))) (hB : ∀ j, j < 4 → ∃ (b rw : Nat) (kd ln e2 : Int32) (rt : Option Nat), qBd h g j b rw 0 kd ln e2 rt) (hY : h y = some (.inr (8, [.ref ms_, .ref mb, .ref mw, .int gr, .int 0, .int 0, .int 0, .ref od, .ref pt, .int 0, .int 0, .ref fi, .ref re, .int (nI 1), .ref rc, .ref rs, .ref so, .ref ot, .ref cn, .ref la, .int (nI 1), .ref ro, .int 0]))) (hms : h ms_ = some (.inl (cy 5, 24, .inr (.inr (.inr (.inr f2)))))) (hmb : h mb = some (.inl (cy 5, 4, .inr (.inr (.inr (.inr g2)))))) (hR : qRo h f2 24) (hRB : qRo h g2 4) (ho : h o = some (.inl (cy 1, 1, .inr (.inl fo)))) (hfi : h fi = some (.inl (cy 1, 1024, .inr (.inl (fun _ => 0))))) (hre : h re = some (.inl (cy 0, 1024, .inl (fun _ => 0)))) (hrc : h rc = some (.inl (cy 0, 1024, .inl (fun _ => 0)))) (hso : h so = some (.inl (cy 0, 1024, .inl (fun _ => 0)))) (hot : h ot = some (.inl (cy 0, 1024, .inl (fun _ => 0)))) (hcn : h cn = some (.inl (cy 1, 1024, .inr (.inl (fun _ => 0))))) (hla : h la = some (.inl (cy 1, 1024, .inr (.inl (fun _ => 0))))) (n_so_rc : rc ≠ so) (n_ot_rc : rc ≠ ot) (n_rc_re : re ≠ rc) (n_ot_so : so ≠ ot) (n_so_re : re ≠ so) (n_ot_re : re ≠ ot) (n_la_cn : cn ≠ la) (n_cn_fi : fi ≠ cn) (n_la_fi : fi ≠ la) (n_ms_sl : ms_ ≠ sl) (n_mb_sl : mb ≠ sl) (hl : lv_has ls 8 [(4, .int 1), (3, .ref o), (2, .ref y), (1, .ref x), (0, .ref b)]) (kend : ∀ (ls : Array Slot) (H : Heap) (locs : List Loc) (ce sl : Nat), ce ≤ cells + 20 → sl ≤ slots + 200 → va_S (qA N0) s.heap H locs → lv_has ls 8 [(4, .int 1), (0, .ref b)] → W p l e (qR 2048 84000 mc ms) s m #[Value.ref b] below meth c H locs ce sl Q (F0 m 2940 ls [])) : W p l e (qR 2048 84000 mc ms) s m #[Value.ref b] below meth c H locs cells slots Q (F0 m 508 ls []) := by
  have hx := C.1
  have hb := C.2.1
  refine lv_aload_n hx hb dL_law_508 rfl (lv_at hl 3 rfl) ?_
  refine lv_aload_n hx hb dL_law_509 rfl (lv_at hl 4 rfl) ?_
  refine lv_iload hx hb dL_law_510 (lv_at hl 0 rfl) ?_
  refine lv_iconst (v := 1) hx hb dL_law_512 (by decide) ?_
  refine lv_iadd hx hb dL_law_513 ?_
  refine va_sld hx hb hX hbl0 hbA hS (by unfold vp_in; decide) dL_law_514 ?_
  refine lv_topi (fun s1 es1 => ?_)
  refine lv_aload_n hx hb dL_law_515 rfl (lv_at hl 4 rfl) ?_
  refine lv_iload hx hb dL_law_516 (lv_at hl 0 rfl) ?_
  refine lv_iconst (v := 2) hx hb dL_law_518 (by decide) ?_
  refine lv_iadd hx hb dL_law_519 ?_
  refine va_sld hx hb hX hbl0 hbA hS (by unfold vp_in; decide) dL_law_520 ?_
  refine lv_topi (fun s2 es2 => ?_)
  refine lv_aload_n hx hb dL_law_521 rfl (lv_at hl 4 rfl) ?_
  refine lv_iload hx hb dL_law_522 (lv_at hl 0 rfl) ?_
  refine lv_iconst (v := 3) hx hb dL_law_524 (by decide) ?_
  refine lv_iadd hx hb dL_law_525 ?_
  refine va_sld hx hb hX hbl0 hbA hS (by unfold vp_in; decide) dL_law_526 ?_
  refine lv_topi (fun s3 es3 => ?_)
  refine lv_i2l hx hb dL_law_527 rfl ?_
  refine lv_bipush (v := 32) hx hb dL_law_528 (by decide) ?_
  refine lv_lshl hx hb dL_law_530 rfl ?_
  refine lv_aload_n hx hb dL_law_531 rfl (lv_at hl 4 rfl) ?_
  refine lv_iload hx hb dL_law_532 (lv_at hl 0 rfl) ?_
  refine lv_iconst (v := 4) hx hb dL_law_534 (by decide) ?_
  refine lv_iadd hx hb dL_law_535 ?_
  refine va_sld hx hb hX hbl0 hbA hS (by unfold vp_in; decide) dL_law_536 ?_
  refine lv_topi (fun s4 es4 => ?_)
  refine lv_i2l hx hb dL_law_537 rfl ?_
  refine lv_ldc2 hx hb C.2.2.2.2.1 (C.2.2.2.2.2.1 _ g1484) dL_law_538 ?_
  refine lv_land hx hb dL_law_541 ?_
  refine lv_lor hx hb dL_law_542 ?_
  refine lv_topl (fun q3 eq3 => ?_)
  refine q_callSW (rest := []) C (c_L_push_0 l D cy N0 (h) x sl bl kr vr hm 0 0 ed f s1 s2 q3 hT hsl hF) kwL_push g519 g520 hP hS (by omega) hl.1 rfl (by decide) (by omega) dL_law_543 (fun v hh1 H locs hq hP hS => ?_)
  obtain ⟨rfl, hq⟩ := hq
  rcases hq with ⟨rfl, gA⟩ | ⟨rfl, gA⟩
  · refine lv_istore (lv' := [(5, .int 1), (4, .int 1), (3, .ref o), (2, .ref y), (1, .ref x), (0, .ref b)]) hx hb dL_law_546 hl (by decide) rfl (fun ls hl => ?_)
    refine lv_aload_n hx hb dL_law_548 rfl (lv_at hl 3 rfl) ?_
    refine lv_aload_n hx hb dL_law_549 rfl (lv_at hl 5 rfl) ?_
    refine lv_iload hx hb dL_law_550 (lv_at hl 1 rfl) ?_
    refine lv_iconst (v := 1) hx hb dL_law_552 (by decide) ?_
    refine lv_iadd hx hb dL_law_553 ?_
    refine va_sld hx hb hX hbl0 hbA hS (by unfold vp_in; decide) dL_law_554 ?_
    rw [← es1]
    refine lv_aload_n hx hb dL_law_555 rfl (lv_at hl 5 rfl) ?_
    refine lv_iload hx hb dL_law_556 (lv_at hl 1 rfl) ?_
    refine lv_iconst (v := 2) hx hb dL_law_558 (by decide) ?_
    refine lv_iadd hx hb dL_law_559 ?_
    refine va_sld hx hb hX hbl0 hbA hS (by unfold vp_in; decide) dL_law_560 ?_
    rw [← es2]
    refine lv_aload_n hx hb dL_law_561 rfl (lv_at hl 5 rfl) ?_
    refine lv_iload hx hb dL_law_562 (lv_at hl 1 rfl) ?_
    refine lv_iconst (v := 3) hx hb dL_law_564 (by decide) ?_
    refine lv_iadd hx hb dL_law_565 ?_
    refine va_sld hx hb hX hbl0 hbA hS (by unfold vp_in; decide) dL_law_566 ?_
    rw [← es3]
    refine lv_i2l hx hb dL_law_567 rfl ?_
    refine lv_bipush (v := 32) hx hb dL_law_568 (by decide) ?_
    refine lv_lshl hx hb dL_law_570 rfl ?_
    refine lv_aload_n hx hb dL_law_571 rfl (lv_at hl 5 rfl) ?_
    refine lv_iload hx hb dL_law_572 (lv_at hl 1 rfl) ?_
    refine lv_iconst (v := 4) hx hb dL_law_574 (by decide) ?_
    refine lv_iadd hx hb dL_law_575 ?_
    refine va_sld hx hb hX hbl0 hbA hS (by unfold vp_in; decide) dL_law_576 ?_
    rw [← es4]
    refine lv_i2l hx hb dL_law_577 rfl ?_
    refine lv_ldc2 hx hb C.2.2.2.2.1 (C.2.2.2.2.2.1 _ g1484) dL_law_578 ?_
    refine lv_land hx hb dL_law_581 ?_
    refine lv_lor hx hb dL_law_582 ?_
    rw [← eq3]
    refine q_callV (rest := []) C (c_X8_push_0 l D cy N0 (h) y ms_ mb mw od pt fi re rc rs so ot cn la ro gr 0 0 0 0 0 (nI 1) (nI 1) 0 f2 g2 s1 s2 q3 hY hms hmb hR hRB) kX8_push g1297 g1298 rfl g1299 g4 hP hS hY (by first | decide | omega) hl.1 rfl (by decide) (by first | decide | omega) dL_law_583 (fun q ce E h' H1 locs1 hE => hE.elim) (fun v hh2 H locs hq hP hS => ?_)
    obtain ⟨cd', rfl, rfl, hq⟩ := hq
    rcases hq with ⟨gB, rfl⟩ | ⟨gB, rfl⟩
    · replace hT := (qs_ne (h := h) (a := y) (o := (.inr (8, [.ref ms_, .ref mb, .ref mw, .int gr, .int 1, .int 0, .int 0, .ref od, .ref pt, .int 0, .int 0, .ref fi, .ref re, .int (nI 1), .ref rc, .ref rs, .ref so, .ref ot, .ref cn, .ref la, .int (nI 1), .ref ro, .int 0]))) (fun q => by subst q; have := hT.symm.trans hY; first | cases this | simp at this)).trans hT
      replace hsl := (qs_ne (h := h) (a := y) (o := (.inr (8, [.ref ms_, .ref mb, .ref mw, .int gr, .int 1, .int 0, .int 0, .ref od, .ref pt, .int 0, .int 0, .ref fi, .ref re, .int (nI 1), .ref rc, .ref rs, .ref so, .ref ot, .ref cn, .ref la, .int (nI 1), .ref ro, .int 0]))) (fun q => by subst q; have := hsl.symm.trans hY; first | cases this | simp at this)).trans hsl
      replace ho := (qs_ne (h := h) (a := y) (o := (.inr (8, [.ref ms_, .ref mb, .ref mw, .int gr, .int 1, .int 0, .int 0, .ref od, .ref pt, .int 0, .int 0, .ref fi, .ref re, .int (nI 1), .ref rc, .ref rs, .ref so, .ref ot, .ref cn, .ref la, .int (nI 1), .ref ro, .int 0]))) (fun q => by subst q; have := ho.symm.trans hY; first | cases this | simp at this)).trans ho
      replace hY : (qs h y (.inr (8, [.ref ms_, .ref mb, .ref mw, .int gr, .int 1, .int 0, .int 0, .ref od, .ref pt, .int 0, .int 0, .ref fi, .ref re, .int (nI 1), .ref rc, .ref rs, .ref so, .ref ot, .ref cn, .ref la, .int (nI 1), .ref ro, .int 0]))) y = some (.inr (8, [.ref ms_, .ref mb, .ref mw, .int gr, .int 1, .int 0, .int 0, .ref od, .ref pt, .int 0, .int 0, .ref fi, .ref re, .int (nI 1), .ref rc, .ref rs, .ref so, .ref ot, .ref cn, .ref la, .int (nI 1), .ref ro, .int 0])) := qs_self
      refine lv_aload_n hx hb dL_law_586 rfl (lv_at hl 3 rfl) ?_
      refine q_callV (rest := []) C (c_X8_thrown l D cy N0 (qs h y (.inr (8, [.ref ms_, .ref mb, .ref mw, .int gr, .int 1, .int 0, .int 0, .ref od, .ref pt, .int 0, .int 0, .ref fi, .ref re, .int (nI 1), .ref rc, .ref rs, .ref so, .ref ot, .ref cn, .ref la, .int (nI 1), .ref ro, .int 0]))) y ms_ mb mw od pt fi re rc rs so ot cn la ro gr 1 0 0 0 0 (nI 1) (nI 1) 0 hY) kX8_thrown g1238 g1239 rfl g1240 g4 hP hS hY (by first | decide | omega) hl.1 rfl (by decide) (by first | decide | omega) dL_law_587 (fun q ce E h' H1 locs1 hE => hE.elim) (fun v hh3 H locs hq hP hS => ?_)
      obtain ⟨rfl, rfl⟩ := hq
      refine lv_iload hx hb dL_law_590 (lv_at hl 0 rfl) ?_
      refine lv_icmp_eq (tgt := 597) hx hb dL_law_592 (by decide) (fun _ => ?_) (fun c9 => absurd rfl c9)
      refine lv_goto (tgt := 2940) hx hb dL_law_597 (by decide) ?_
      exact kend ls H locs _ _ (by omega) (by omega) hS (lv_sub hl [1, 5] rfl)
    · exact absurd gB gA
  · refine lv_istore (lv' := [(5, .int 2), (4, .int 1), (3, .ref o), (2, .ref y), (1, .ref x), (0, .ref b)]) hx hb dL_law_546 hl (by decide) rfl (fun ls hl => ?_)
    refine lv_aload_n hx hb dL_law_548 rfl (lv_at hl 3 rfl) ?_
    refine lv_aload_n hx hb dL_law_549 rfl (lv_at hl 5 rfl) ?_
    refine lv_iload hx hb dL_law_550 (lv_at hl 1 rfl) ?_
    refine lv_iconst (v := 1) hx hb dL_law_552 (by decide) ?_
    refine lv_iadd hx hb dL_law_553 ?_
    refine va_sld hx hb hX hbl0 hbA hS (by unfold vp_in; decide) dL_law_554 ?_
    rw [← es1]
    refine lv_aload_n hx hb dL_law_555 rfl (lv_at hl 5 rfl) ?_
    refine lv_iload hx hb dL_law_556 (lv_at hl 1 rfl) ?_
    refine lv_iconst (v := 2) hx hb dL_law_558 (by decide) ?_
    refine lv_iadd hx hb dL_law_559 ?_
    refine va_sld hx hb hX hbl0 hbA hS (by unfold vp_in; decide) dL_law_560 ?_
    rw [← es2]
    refine lv_aload_n hx hb dL_law_561 rfl (lv_at hl 5 rfl) ?_
    refine lv_iload hx hb dL_law_562 (lv_at hl 1 rfl) ?_
    refine lv_iconst (v := 3) hx hb dL_law_564 (by decide) ?_
    refine lv_iadd hx hb dL_law_565 ?_
    refine va_sld hx hb hX hbl0 hbA hS (by unfold vp_in; decide) dL_law_566 ?_
    rw [← es3]
    refine lv_i2l hx hb dL_law_567 rfl ?_
    refine lv_bipush (v := 32) hx hb dL_law_568 (by decide) ?_
    refine lv_lshl hx hb dL_law_570 rfl ?_
    refine lv_aload_n hx hb dL_law_571 rfl (lv_at hl 5 rfl) ?_
    refine lv_iload hx hb dL_law_572 (lv_at hl 1 rfl) ?_
    refine lv_iconst (v := 4) hx hb dL_law_574 (by decide) ?_
    refine lv_iadd hx hb dL_law_575 ?_
    refine va_sld hx hb hX hbl0 hbA hS (by unfold vp_in; decide) dL_law_576 ?_
    rw [← es4]
    refine lv_i2l hx hb dL_law_577 rfl ?_
    refine lv_ldc2 hx hb C.2.2.2.2.1 (C.2.2.2.2.2.1 _ g1484) dL_law_578 ?_
    refine lv_land hx hb dL_law_581 ?_
    refine lv_lor hx hb dL_law_582 ?_
    rw [← eq3]
    refine q_callV (rest := []) C (c_X8_push_0 l D cy N0 (h) y ms_ mb mw od pt fi re rc rs so ot cn la ro gr 0 0 0 0 0 (nI 1) (nI 1) 0 f2 g2 s1 s2 q3 hY hms hmb hR hRB) kX8_push g1297 g1298 rfl g1299 g4 hP hS hY (by first | decide | omega) hl.1 rfl (by decide) (by first | decide | omega) dL_law_583 (fun q ce E h' H1 locs1 hE => hE.elim) (fun v hh4 H locs hq hP hS => ?_)
    obtain ⟨cd', rfl, rfl, hq⟩ := hq
    rcases hq with ⟨gB, rfl⟩ | ⟨gB, rfl⟩
    · exact absurd gA gB
    · replace hT := (qs_ne (h := h) (a := y) (o := (.inr (8, [.ref ms_, .ref mb, .ref mw, .int gr, .int 2, .int 0, .int 0, .ref od, .ref pt, .int 0, .int 0, .ref fi, .ref re, .int (nI 1), .ref rc, .ref rs, .ref so, .ref ot, .ref cn, .ref la, .int (nI 1), .ref ro, .int 0]))) (fun q => by subst q; have := hT.symm.trans hY; first | cases this | simp at this)).trans hT
      replace hsl := (qs_ne (h := h) (a := y) (o := (.inr (8, [.ref ms_, .ref mb, .ref mw, .int gr, .int 2, .int 0, .int 0, .ref od, .ref pt, .int 0, .int 0, .ref fi, .ref re, .int (nI 1), .ref rc, .ref rs, .ref so, .ref ot, .ref cn, .ref la, .int (nI 1), .ref ro, .int 0]))) (fun q => by subst q; have := hsl.symm.trans hY; first | cases this | simp at this)).trans hsl
      replace ho := (qs_ne (h := h) (a := y) (o := (.inr (8, [.ref ms_, .ref mb, .ref mw, .int gr, .int 2, .int 0, .int 0, .ref od, .ref pt, .int 0, .int 0, .ref fi, .ref re, .int (nI 1), .ref rc, .ref rs, .ref so, .ref ot, .ref cn, .ref la, .int (nI 1), .ref ro, .int 0]))) (fun q => by subst q; have := ho.symm.trans hY; first | cases this | simp at this)).trans ho
      replace hY : (qs h y (.inr (8, [.ref ms_, .ref mb, .ref mw, .int gr, .int 2, .int 0, .int 0, .ref od, .ref pt, .int 0, .int 0, .ref fi, .ref re, .int (nI 1), .ref rc, .ref rs, .ref so, .ref ot, .ref cn, .ref la, .int (nI 1), .ref ro, .int 0]))) y = some (.inr (8, [.ref ms_, .ref mb, .ref mw, .int gr, .int 2, .int 0, .int 0, .ref od, .ref pt, .int 0, .int 0, .ref fi, .ref re, .int (nI 1), .ref rc, .ref rs, .ref so, .ref ot, .ref cn, .ref la, .int (nI 1), .ref ro, .int 0])) := qs_self
      refine lv_aload_n hx hb dL_law_586 rfl (lv_at hl 3 rfl) ?_
      refine q_callV (rest := []) C (c_X8_thrown l D cy N0 (qs h y (.inr (8, [.ref ms_, .ref mb, .ref mw, .int gr, .int 2, .int 0, .int 0, .ref od, .ref pt, .int 0, .int 0, .ref fi, .ref re, .int (nI 1), .ref rc, .ref rs, .ref so, .ref ot, .ref cn, .ref la, .int (nI 1), .ref ro, .int 0]))) y ms_ mb mw od pt fi re rc rs so ot cn la ro gr 2 0 0 0 0 (nI 1) (nI 1) 0 hY) kX8_thrown g1238 g1239 rfl g1240 g4 hP hS hY (by first | decide | omega) hl.1 rfl (by decide) (by first | decide | omega) dL_law_587 (fun q ce E h' H1 locs1 hE => hE.elim) (fun v hh5 H locs hq hP hS => ?_)
      obtain ⟨rfl, rfl⟩ := hq
      refine lv_iload hx hb dL_law_590 (lv_at hl 0 rfl) ?_
      refine lv_icmp_eq (tgt := 597) hx hb dL_law_592 (by decide) (fun _ => ?_) (fun c9 => absurd rfl c9)
      refine lv_goto (tgt := 2940) hx hb dL_law_597 (by decide) ?_
      exact kend ls H locs _ _ (by omega) (by omega) hS (lv_sub hl [1, 5] rfl)
