theorem dL_law_1389 : decode cL_law 1389 = .ok (.aload_n 1, 1) := by decide +kernel
theorem dL_law_1390 : decode cL_law 1390 = .ok (.aload_n 0, 1) := by decide +kernel
theorem dL_law_1391 : decode cL_law 1391 = .ok (.iload 4, 2) := by decide +kernel
theorem dL_law_1393 : decode cL_law 1393 = .ok (.iconst 1, 1) := by decide +kernel
theorem dL_law_1394 : decode cL_law 1394 = .ok (.iadd, 1) := by decide +kernel
theorem dL_law_1395 : decode cL_law 1395 = .ok (.iaload, 1) := by decide +kernel
theorem dL_law_1396 : decode cL_law 1396 = .ok (.aload_n 0, 1) := by decide +kernel
theorem dL_law_1397 : decode cL_law 1397 = .ok (.iload 4, 2) := by decide +kernel
theorem dL_law_1399 : decode cL_law 1399 = .ok (.iconst 2, 1) := by decide +kernel
theorem dL_law_1400 : decode cL_law 1400 = .ok (.iadd, 1) := by decide +kernel
theorem dL_law_1401 : decode cL_law 1401 = .ok (.iaload, 1) := by decide +kernel
theorem dL_law_1402 : decode cL_law 1402 = .ok (.i2l, 1) := by decide +kernel
theorem dL_law_1403 : decode cL_law 1403 = .ok (.bipush 32, 2) := by decide +kernel
theorem dL_law_1405 : decode cL_law 1405 = .ok (.lshl, 1) := by decide +kernel
theorem dL_law_1406 : decode cL_law 1406 = .ok (.aload_n 0, 1) := by decide +kernel
theorem dL_law_1407 : decode cL_law 1407 = .ok (.iload 4, 2) := by decide +kernel
theorem dL_law_1409 : decode cL_law 1409 = .ok (.iconst 3, 1) := by decide +kernel
theorem dL_law_1410 : decode cL_law 1410 = .ok (.iadd, 1) := by decide +kernel
theorem dL_law_1411 : decode cL_law 1411 = .ok (.iaload, 1) := by decide +kernel
theorem dL_law_1412 : decode cL_law 1412 = .ok (.i2l, 1) := by decide +kernel
theorem dL_law_1413 : decode cL_law 1413 = .ok (.ldc2_w 161, 3) := by decide +kernel
theorem dL_law_1416 : decode cL_law 1416 = .ok (.land, 1) := by decide +kernel
theorem dL_law_1417 : decode cL_law 1417 = .ok (.lor, 1) := by decide +kernel
theorem dL_law_1418 : decode cL_law 1418 = .ok (.aload_n 0, 1) := by decide +kernel
theorem dL_law_1419 : decode cL_law 1419 = .ok (.iload 4, 2) := by decide +kernel
theorem dL_law_1421 : decode cL_law 1421 = .ok (.iconst 4, 1) := by decide +kernel
theorem dL_law_1422 : decode cL_law 1422 = .ok (.iadd, 1) := by decide +kernel
theorem dL_law_1423 : decode cL_law 1423 = .ok (.iaload, 1) := by decide +kernel
theorem dL_law_1424 : decode cL_law 1424 = .ok (.aload_n 3, 1) := by decide +kernel
theorem dL_law_1425 : decode cL_law 1425 = .ok (.invokestatic 200, 3) := by decide +kernel
theorem dL_law_1428 : decode cL_law 1428 = .ok (.istore 5, 2) := by decide +kernel
theorem dL_law_1430 : decode cL_law 1430 = .ok (.aload_n 2, 1) := by decide +kernel
theorem dL_law_1431 : decode cL_law 1431 = .ok (.aload_n 0, 1) := by decide +kernel
theorem dL_law_1432 : decode cL_law 1432 = .ok (.iload 4, 2) := by decide +kernel
theorem dL_law_1434 : decode cL_law 1434 = .ok (.iconst 1, 1) := by decide +kernel
theorem dL_law_1435 : decode cL_law 1435 = .ok (.iadd, 1) := by decide +kernel
theorem dL_law_1436 : decode cL_law 1436 = .ok (.iaload, 1) := by decide +kernel
theorem dL_law_1437 : decode cL_law 1437 = .ok (.aload_n 0, 1) := by decide +kernel
theorem dL_law_1438 : decode cL_law 1438 = .ok (.iload 4, 2) := by decide +kernel
theorem dL_law_1440 : decode cL_law 1440 = .ok (.iconst 2, 1) := by decide +kernel
theorem dL_law_1441 : decode cL_law 1441 = .ok (.iadd, 1) := by decide +kernel
theorem dL_law_1442 : decode cL_law 1442 = .ok (.iaload, 1) := by decide +kernel
theorem dL_law_1443 : decode cL_law 1443 = .ok (.i2l, 1) := by decide +kernel
theorem dL_law_1444 : decode cL_law 1444 = .ok (.bipush 32, 2) := by decide +kernel
theorem dL_law_1446 : decode cL_law 1446 = .ok (.lshl, 1) := by decide +kernel
theorem dL_law_1447 : decode cL_law 1447 = .ok (.aload_n 0, 1) := by decide +kernel
theorem dL_law_1448 : decode cL_law 1448 = .ok (.iload 4, 2) := by decide +kernel
theorem dL_law_1450 : decode cL_law 1450 = .ok (.iconst 3, 1) := by decide +kernel
theorem dL_law_1451 : decode cL_law 1451 = .ok (.iadd, 1) := by decide +kernel
theorem dL_law_1452 : decode cL_law 1452 = .ok (.iaload, 1) := by decide +kernel
theorem dL_law_1453 : decode cL_law 1453 = .ok (.i2l, 1) := by decide +kernel
theorem dL_law_1454 : decode cL_law 1454 = .ok (.ldc2_w 161, 3) := by decide +kernel
theorem dL_law_1457 : decode cL_law 1457 = .ok (.land, 1) := by decide +kernel
theorem dL_law_1458 : decode cL_law 1458 = .ok (.lor, 1) := by decide +kernel
theorem dL_law_1459 : decode cL_law 1459 = .ok (.aload_n 0, 1) := by decide +kernel
theorem dL_law_1460 : decode cL_law 1460 = .ok (.iload 4, 2) := by decide +kernel
theorem dL_law_1462 : decode cL_law 1462 = .ok (.iconst 4, 1) := by decide +kernel
theorem dL_law_1463 : decode cL_law 1463 = .ok (.iadd, 1) := by decide +kernel
theorem dL_law_1464 : decode cL_law 1464 = .ok (.iaload, 1) := by decide +kernel
theorem dL_law_1465 : decode cL_law 1465 = .ok (.invokevirtual 203, 3) := by decide +kernel
theorem dL_law_1468 : decode cL_law 1468 = .ok (.lstore 6, 2) := by decide +kernel
theorem dL_law_1470 : decode cL_law 1470 = .ok (.aload_n 2, 1) := by decide +kernel
theorem dL_law_1471 : decode cL_law 1471 = .ok (.invokevirtual 147, 3) := by decide +kernel
theorem dL_law_1474 : decode cL_law 1474 = .ok (.iload 5, 2) := by decide +kernel
theorem dL_law_1476 : decode cL_law 1476 = .ok (.if_icmp .eq 5, 3) := by decide +kernel
theorem dL_law_1481 : decode cL_law 1481 = .ok (.iload 5, 2) := by decide +kernel
theorem dL_law_1483 : decode cL_law 1483 = .ok (.ifCond .ne 14, 3) := by decide +kernel
theorem dL_law_1497 : decode cL_law 1497 = .ok (.goto 1443, 3) := by decide +kernel
set_option maxRecDepth 100000 in
set_option maxHeartbeats 4000000 in
theorem lc_near {p : Program} {l : Launch} {e : Env} {mc ms : Nat} {s : State} {m : MethodId} {below : List Frame} {meth : Method} {c : Code} {H : Heap} {locs : List Loc} {cells slots : Nat} {Q : State → Prop} {rt0 : Option FieldType} {nm0 : String} {D : va_G} {cy : Nat → ClassId} {N0 : Nat} {tb : List ExceptionTableEntry} {h : qH} {ls : Array Slot} {b : Nat} {xs : Nat → Int32} {x sl bl kr vr : Nat} {hm ed : Int32} {f g : Nat → Option Nat} {y ms_ mb mw od pt fi re rc rs so ot cn la ro : Nat} {gr : Int32} {f2 g2 : Nat → Option Nat} {o : Nat} {fo : Nat → Int64} (C : qX p l s m #[Value.ref b] meth c RL cL_law 8 rt0 nm0 D cy N0 tb) (hX : va_X b 8 xs s s.heap) (hbl0 : b < s.heap.size) (hbA : ¬ qA N0 b) (hP : qP D N0 h H) (hS : va_S (qA N0) s.heap H locs) (hcm : cells + 20 ≤ mc) (hsm : slots + 200 ≤ ms) (hT : h x = some (.inr (6, [.int hm, .ref sl, .ref bl, .ref kr, .ref vr, .int 0, .int 0, .int ed]))) (hsl : h sl = some (.inl (cy 3, 24, .inr (.inr (.inr (.inr f)))))) (hF : ∀ i, i < 24 → f i = none) (hbl : h bl = some (.inl (cy 2, 4, .inr (.inr (.inr (.inr g)))))) (hB : ∀ j, j < 4 → ∃ (b rw : Nat) (kd ln e2 : Int32) (rt : Option Nat), qBd h g j b rw 0 kd ln e2 rt) (hY : h y = some (.inr (8, [.ref ms_, .ref mb, .ref mw, .int gr, .int 0, .int 0, .int 0, .ref od, .ref pt, .int 0, .int 0, .ref fi, .ref re, .int (nI 1), .ref rc, .ref rs, .ref so, .ref ot, .ref cn, .ref la, .int (nI 1), .ref ro, .int 0]))) (hms : h ms_ = some (.inl (cy 5, 24, .inr (.inr (.inr (.inr f2)))))) (hmb : h mb = some (.inl (cy 5, 4, .inr (.inr (.inr (.inr g2)))))) (hR : qRo h f2 24) (hRB : qRo h g2 4) (ho : h o = some (.inl (cy 1, 1, .inr (.inl fo)))) (hfi : h fi = some (.inl (cy 1, 1024, .inr (.inl (fun _ => 0))))) (hre : h re = some (.inl (cy 0, 1024, .inl (fun _ => 0)))) (hrc : h rc = some (.inl (cy 0, 1024, .inl (fun _ => 0)))) (hso : h so = some (.inl (cy 0, 1024, .inl (fun _ => 0)))) (hot : h ot = some (.inl (cy 0, 1024, .inl (fun _ => 0)))) (hcn : h cn = some (.inl (cy 1, 1024, .inr (.inl (fun _ => 0))))) (hla : h la = some (.inl (cy 1, 1024, .inr (.inl (fun _ => 0))))) (n_so_rc : rc ≠ so) (n_ot_rc : rc ≠ ot) (n_rc_re : re ≠ rc) (n_ot_so : so ≠ ot) (n_so_re : re ≠ so) (n_ot_re : re ≠ ot) (n_la_cn : cn ≠ la) (n_cn_fi : fi ≠ cn) (n_la_fi : fi ≠ la) (n_ms_sl : ms_ ≠ sl) (n_mb_sl : mb ≠ sl) (hl : lv_has ls 8 [(4, .int 1), (3, .ref o), (2, .ref y), (1, .ref x), (0, .ref b)]) (kend : ∀ (ls : Array Slot) (H : Heap) (locs : List Loc) (ce sl : Nat), ce ≤ cells + 20 → sl ≤ slots + 200 → va_S (qA N0) s.heap H locs → lv_has ls 8 [(4, .int 1), (0, .ref b)] → W p l e (qR 2048 84000 mc ms) s m #[Value.ref b] below meth c H locs ce sl Q (F0 m 2940 ls [])) : W p l e (qR 2048 84000 mc ms) s m #[Value.ref b] below meth c H locs cells slots Q (F0 m 1389 ls []) := by
  have hx := C.1
  have hb := C.2.1
  refine lv_aload_n hx hb dL_law_1389 rfl (lv_at hl 3 rfl) ?_
  refine lv_aload_n hx hb dL_law_1390 rfl (lv_at hl 4 rfl) ?_
  refine lv_iload hx hb dL_law_1391 (lv_at hl 0 rfl) ?_
  refine lv_iconst (v := 1) hx hb dL_law_1393 (by decide) ?_
  refine lv_iadd hx hb dL_law_1394 ?_
  refine va_sld hx hb hX hbl0 hbA hS (by unfold vp_in; decide) dL_law_1395 ?_
  refine lv_topi (fun s1 es1 => ?_)
  refine lv_aload_n hx hb dL_law_1396 rfl (lv_at hl 4 rfl) ?_
  refine lv_iload hx hb dL_law_1397 (lv_at hl 0 rfl) ?_
  refine lv_iconst (v := 2) hx hb dL_law_1399 (by decide) ?_
  refine lv_iadd hx hb dL_law_1400 ?_
  refine va_sld hx hb hX hbl0 hbA hS (by unfold vp_in; decide) dL_law_1401 ?_
  refine lv_topi (fun s2 es2 => ?_)
  refine lv_i2l hx hb dL_law_1402 rfl ?_
  refine lv_bipush (v := 32) hx hb dL_law_1403 (by decide) ?_
  refine lv_lshl hx hb dL_law_1405 rfl ?_
  refine lv_aload_n hx hb dL_law_1406 rfl (lv_at hl 4 rfl) ?_
  refine lv_iload hx hb dL_law_1407 (lv_at hl 0 rfl) ?_
  refine lv_iconst (v := 3) hx hb dL_law_1409 (by decide) ?_
  refine lv_iadd hx hb dL_law_1410 ?_
  refine va_sld hx hb hX hbl0 hbA hS (by unfold vp_in; decide) dL_law_1411 ?_
  refine lv_topi (fun s3 es3 => ?_)
  refine lv_i2l hx hb dL_law_1412 rfl ?_
  refine lv_ldc2 hx hb C.2.2.2.2.1 (C.2.2.2.2.2.1 _ g1484) dL_law_1413 ?_
  refine lv_land hx hb dL_law_1416 ?_
  refine lv_lor hx hb dL_law_1417 ?_
  refine lv_topl (fun q2 eq2 => ?_)
  refine lv_aload_n hx hb dL_law_1418 rfl (lv_at hl 4 rfl) ?_
  refine lv_iload hx hb dL_law_1419 (lv_at hl 0 rfl) ?_
  refine lv_iconst (v := 4) hx hb dL_law_1421 (by decide) ?_
  refine lv_iadd hx hb dL_law_1422 ?_
  refine va_sld hx hb hX hbl0 hbA hS (by unfold vp_in; decide) dL_law_1423 ?_
  refine lv_topi (fun s4 es4 => ?_)
  refine lv_aload_n hx hb dL_law_1424 rfl (lv_at hl 1 rfl) ?_
  refine q_callSW (rest := []) C (c_L_near_0 l D cy N0 (h) x sl bl kr vr hm 0 0 ed f s1 q2 s4 o hT hsl hF) kwL_near g814 g815 hP hS (by omega) hl.1 rfl (by decide) (by omega) dL_law_1425 (fun v hh1 H locs hq hP hS => ?_)
  obtain ⟨rfl, hq⟩ := hq
  rcases hq with ⟨rfl, gA⟩ | ⟨rfl, gA⟩
  · refine lv_istore (lv' := [(5, .int 1), (4, .int 1), (3, .ref o), (2, .ref y), (1, .ref x), (0, .ref b)]) hx hb dL_law_1428 hl (by decide) rfl (fun ls hl => ?_)
    refine lv_aload_n hx hb dL_law_1430 rfl (lv_at hl 3 rfl) ?_
    refine lv_aload_n hx hb dL_law_1431 rfl (lv_at hl 5 rfl) ?_
    refine lv_iload hx hb dL_law_1432 (lv_at hl 1 rfl) ?_
    refine lv_iconst (v := 1) hx hb dL_law_1434 (by decide) ?_
    refine lv_iadd hx hb dL_law_1435 ?_
    refine va_sld hx hb hX hbl0 hbA hS (by unfold vp_in; decide) dL_law_1436 ?_
    rw [← es1]
    refine lv_aload_n hx hb dL_law_1437 rfl (lv_at hl 5 rfl) ?_
    refine lv_iload hx hb dL_law_1438 (lv_at hl 1 rfl) ?_
    refine lv_iconst (v := 2) hx hb dL_law_1440 (by decide) ?_
    refine lv_iadd hx hb dL_law_1441 ?_
    refine va_sld hx hb hX hbl0 hbA hS (by unfold vp_in; decide) dL_law_1442 ?_
    rw [← es2]
    refine lv_i2l hx hb dL_law_1443 rfl ?_
    refine lv_bipush (v := 32) hx hb dL_law_1444 (by decide) ?_
    refine lv_lshl hx hb dL_law_1446 rfl ?_
    refine lv_aload_n hx hb dL_law_1447 rfl (lv_at hl 5 rfl) ?_
    refine lv_iload hx hb dL_law_1448 (lv_at hl 1 rfl) ?_
    refine lv_iconst (v := 3) hx hb dL_law_1450 (by decide) ?_
    refine lv_iadd hx hb dL_law_1451 ?_
    refine va_sld hx hb hX hbl0 hbA hS (by unfold vp_in; decide) dL_law_1452 ?_
    rw [← es3]
    refine lv_i2l hx hb dL_law_1453 rfl ?_
    refine lv_ldc2 hx hb C.2.2.2.2.1 (C.2.2.2.2.2.1 _ g1484) dL_law_1454 ?_
    refine lv_land hx hb dL_law_1457 ?_
    refine lv_lor hx hb dL_law_1458 ?_
    rw [← eq2]
    refine lv_aload_n hx hb dL_law_1459 rfl (lv_at hl 5 rfl) ?_
    refine lv_iload hx hb dL_law_1460 (lv_at hl 1 rfl) ?_
    refine lv_iconst (v := 4) hx hb dL_law_1462 (by decide) ?_
    refine lv_iadd hx hb dL_law_1463 ?_
    refine va_sld hx hb hX hbl0 hbA hS (by unfold vp_in; decide) dL_law_1464 ?_
    rw [← es4]
    refine q_callV (rest := []) C (c_X8_near_0 l D cy N0 (h) y ms_ mb mw od pt fi re rc rs so ot cn la ro gr 0 0 0 0 0 (nI 1) (nI 1) 0 f2 g2 s1 q2 s4 hY hms hmb hR hRB) kX8_near g1405 g1406 rfl g1407 g4 hP hS hY (by first | decide | omega) hl.1 rfl (by decide) (by first | decide | omega) dL_law_1465 (fun q ce E h' H1 locs1 hE => hE.elim) (fun v hh2 H locs hq hP hS => ?_)
    obtain ⟨cd', rfl, rfl, hq⟩ := hq
    rcases hq with ⟨gB, rfl⟩ | ⟨gB, rfl⟩
    · replace hT := (qs_ne (h := h) (a := y) (o := (.inr (8, [.ref ms_, .ref mb, .ref mw, .int gr, .int 1, .int 0, .int 0, .ref od, .ref pt, .int 0, .int 0, .ref fi, .ref re, .int (nI 1), .ref rc, .ref rs, .ref so, .ref ot, .ref cn, .ref la, .int (nI 1), .ref ro, .int 0]))) (fun q => by subst q; have := hT.symm.trans hY; first | cases this | simp at this)).trans hT
      replace hsl := (qs_ne (h := h) (a := y) (o := (.inr (8, [.ref ms_, .ref mb, .ref mw, .int gr, .int 1, .int 0, .int 0, .ref od, .ref pt, .int 0, .int 0, .ref fi, .ref re, .int (nI 1), .ref rc, .ref rs, .ref so, .ref ot, .ref cn, .ref la, .int (nI 1), .ref ro, .int 0]))) (fun q => by subst q; have := hsl.symm.trans hY; first | cases this | simp at this)).trans hsl
      replace ho := (qs_ne (h := h) (a := y) (o := (.inr (8, [.ref ms_, .ref mb, .ref mw, .int gr, .int 1, .int 0, .int 0, .ref od, .ref pt, .int 0, .int 0, .ref fi, .ref re, .int (nI 1), .ref rc, .ref rs, .ref so, .ref ot, .ref cn, .ref la, .int (nI 1), .ref ro, .int 0]))) (fun q => by subst q; have := ho.symm.trans hY; first | cases this | simp at this)).trans ho
      replace hY : (qs h y (.inr (8, [.ref ms_, .ref mb, .ref mw, .int gr, .int 1, .int 0, .int 0, .ref od, .ref pt, .int 0, .int 0, .ref fi, .ref re, .int (nI 1), .ref rc, .ref rs, .ref so, .ref ot, .ref cn, .ref la, .int (nI 1), .ref ro, .int 0]))) y = some (.inr (8, [.ref ms_, .ref mb, .ref mw, .int gr, .int 1, .int 0, .int 0, .ref od, .ref pt, .int 0, .int 0, .ref fi, .ref re, .int (nI 1), .ref rc, .ref rs, .ref so, .ref ot, .ref cn, .ref la, .int (nI 1), .ref ro, .int 0])) := qs_self
      refine lv_lstore (lv' := [(6, .long 0), (5, .int 1), (4, .int 1), (3, .ref o), (2, .ref y), (1, .ref x), (0, .ref b)]) hx hb dL_law_1468 hl (by decide) rfl (fun ls hl => ?_)
      refine lv_aload_n hx hb dL_law_1470 rfl (lv_at hl 4 rfl) ?_
      refine q_callV (rest := []) C (c_X8_thrown l D cy N0 (qs h y (.inr (8, [.ref ms_, .ref mb, .ref mw, .int gr, .int 1, .int 0, .int 0, .ref od, .ref pt, .int 0, .int 0, .ref fi, .ref re, .int (nI 1), .ref rc, .ref rs, .ref so, .ref ot, .ref cn, .ref la, .int (nI 1), .ref ro, .int 0]))) y ms_ mb mw od pt fi re rc rs so ot cn la ro gr 1 0 0 0 0 (nI 1) (nI 1) 0 hY) kX8_thrown g1238 g1239 rfl g1240 g4 hP hS hY (by first | decide | omega) hl.1 rfl (by decide) (by first | decide | omega) dL_law_1471 (fun q ce E h' H1 locs1 hE => hE.elim) (fun v hh3 H locs hq hP hS => ?_)
      obtain ⟨rfl, rfl⟩ := hq
      refine lv_iload hx hb dL_law_1474 (lv_at hl 1 rfl) ?_
      refine lv_icmp_eq (tgt := 1481) hx hb dL_law_1476 (by decide) (fun _ => ?_) (fun c9 => absurd rfl c9)
      refine lv_iload hx hb dL_law_1481 (lv_at hl 1 rfl) ?_
      refine lv_if_ne (tgt := 1497) hx hb dL_law_1483 (by decide) (fun _ => ?_) (fun c => absurd c (by decide))
      refine lv_goto (tgt := 2940) hx hb dL_law_1497 (by decide) ?_
      exact kend ls H locs _ _ (by omega) (by omega) hS (lv_sub hl [2, 6] rfl)
    · exact absurd gB gA
  · refine lv_istore (lv' := [(5, .int 2), (4, .int 1), (3, .ref o), (2, .ref y), (1, .ref x), (0, .ref b)]) hx hb dL_law_1428 hl (by decide) rfl (fun ls hl => ?_)
    refine lv_aload_n hx hb dL_law_1430 rfl (lv_at hl 3 rfl) ?_
    refine lv_aload_n hx hb dL_law_1431 rfl (lv_at hl 5 rfl) ?_
    refine lv_iload hx hb dL_law_1432 (lv_at hl 1 rfl) ?_
    refine lv_iconst (v := 1) hx hb dL_law_1434 (by decide) ?_
    refine lv_iadd hx hb dL_law_1435 ?_
    refine va_sld hx hb hX hbl0 hbA hS (by unfold vp_in; decide) dL_law_1436 ?_
    rw [← es1]
    refine lv_aload_n hx hb dL_law_1437 rfl (lv_at hl 5 rfl) ?_
    refine lv_iload hx hb dL_law_1438 (lv_at hl 1 rfl) ?_
    refine lv_iconst (v := 2) hx hb dL_law_1440 (by decide) ?_
    refine lv_iadd hx hb dL_law_1441 ?_
    refine va_sld hx hb hX hbl0 hbA hS (by unfold vp_in; decide) dL_law_1442 ?_
    rw [← es2]
    refine lv_i2l hx hb dL_law_1443 rfl ?_
    refine lv_bipush (v := 32) hx hb dL_law_1444 (by decide) ?_
    refine lv_lshl hx hb dL_law_1446 rfl ?_
    refine lv_aload_n hx hb dL_law_1447 rfl (lv_at hl 5 rfl) ?_
    refine lv_iload hx hb dL_law_1448 (lv_at hl 1 rfl) ?_
    refine lv_iconst (v := 3) hx hb dL_law_1450 (by decide) ?_
    refine lv_iadd hx hb dL_law_1451 ?_
    refine va_sld hx hb hX hbl0 hbA hS (by unfold vp_in; decide) dL_law_1452 ?_
    rw [← es3]
    refine lv_i2l hx hb dL_law_1453 rfl ?_
    refine lv_ldc2 hx hb C.2.2.2.2.1 (C.2.2.2.2.2.1 _ g1484) dL_law_1454 ?_
    refine lv_land hx hb dL_law_1457 ?_
    refine lv_lor hx hb dL_law_1458 ?_
    rw [← eq2]
    refine lv_aload_n hx hb dL_law_1459 rfl (lv_at hl 5 rfl) ?_
    refine lv_iload hx hb dL_law_1460 (lv_at hl 1 rfl) ?_
    refine lv_iconst (v := 4) hx hb dL_law_1462 (by decide) ?_
    refine lv_iadd hx hb dL_law_1463 ?_
    refine va_sld hx hb hX hbl0 hbA hS (by unfold vp_in; decide) dL_law_1464 ?_
    rw [← es4]
    refine q_callV (rest := []) C (c_X8_near_0 l D cy N0 (h) y ms_ mb mw od pt fi re rc rs so ot cn la ro gr 0 0 0 0 0 (nI 1) (nI 1) 0 f2 g2 s1 q2 s4 hY hms hmb hR hRB) kX8_near g1405 g1406 rfl g1407 g4 hP hS hY (by first | decide | omega) hl.1 rfl (by decide) (by first | decide | omega) dL_law_1465 (fun q ce E h' H1 locs1 hE => hE.elim) (fun v hh4 H locs hq hP hS => ?_)
    obtain ⟨cd', rfl, rfl, hq⟩ := hq
    rcases hq with ⟨gB, rfl⟩ | ⟨gB, rfl⟩
    · exact absurd gA gB
    · replace hT := (qs_ne (h := h) (a := y) (o := (.inr (8, [.ref ms_, .ref mb, .ref mw, .int gr, .int 2, .int 0, .int 0, .ref od, .ref pt, .int 0, .int 0, .ref fi, .ref re, .int (nI 1), .ref rc, .ref rs, .ref so, .ref ot, .ref cn, .ref la, .int (nI 1), .ref ro, .int 0]))) (fun q => by subst q; have := hT.symm.trans hY; first | cases this | simp at this)).trans hT
      replace hsl := (qs_ne (h := h) (a := y) (o := (.inr (8, [.ref ms_, .ref mb, .ref mw, .int gr, .int 2, .int 0, .int 0, .ref od, .ref pt, .int 0, .int 0, .ref fi, .ref re, .int (nI 1), .ref rc, .ref rs, .ref so, .ref ot, .ref cn, .ref la, .int (nI 1), .ref ro, .int 0]))) (fun q => by subst q; have := hsl.symm.trans hY; first | cases this | simp at this)).trans hsl
      replace ho := (qs_ne (h := h) (a := y) (o := (.inr (8, [.ref ms_, .ref mb, .ref mw, .int gr, .int 2, .int 0, .int 0, .ref od, .ref pt, .int 0, .int 0, .ref fi, .ref re, .int (nI 1), .ref rc, .ref rs, .ref so, .ref ot, .ref cn, .ref la, .int (nI 1), .ref ro, .int 0]))) (fun q => by subst q; have := ho.symm.trans hY; first | cases this | simp at this)).trans ho
      replace hY : (qs h y (.inr (8, [.ref ms_, .ref mb, .ref mw, .int gr, .int 2, .int 0, .int 0, .ref od, .ref pt, .int 0, .int 0, .ref fi, .ref re, .int (nI 1), .ref rc, .ref rs, .ref so, .ref ot, .ref cn, .ref la, .int (nI 1), .ref ro, .int 0]))) y = some (.inr (8, [.ref ms_, .ref mb, .ref mw, .int gr, .int 2, .int 0, .int 0, .ref od, .ref pt, .int 0, .int 0, .ref fi, .ref re, .int (nI 1), .ref rc, .ref rs, .ref so, .ref ot, .ref cn, .ref la, .int (nI 1), .ref ro, .int 0])) := qs_self
      refine lv_lstore (lv' := [(6, .long 0), (5, .int 2), (4, .int 1), (3, .ref o), (2, .ref y), (1, .ref x), (0, .ref b)]) hx hb dL_law_1468 hl (by decide) rfl (fun ls hl => ?_)
      refine lv_aload_n hx hb dL_law_1470 rfl (lv_at hl 4 rfl) ?_
      refine q_callV (rest := []) C (c_X8_thrown l D cy N0 (qs h y (.inr (8, [.ref ms_, .ref mb, .ref mw, .int gr, .int 2, .int 0, .int 0, .ref od, .ref pt, .int 0, .int 0, .ref fi, .ref re, .int (nI 1), .ref rc, .ref rs, .ref so, .ref ot, .ref cn, .ref la, .int (nI 1), .ref ro, .int 0]))) y ms_ mb mw od pt fi re rc rs so ot cn la ro gr 2 0 0 0 0 (nI 1) (nI 1) 0 hY) kX8_thrown g1238 g1239 rfl g1240 g4 hP hS hY (by first | decide | omega) hl.1 rfl (by decide) (by first | decide | omega) dL_law_1471 (fun q ce E h' H1 locs1 hE => hE.elim) (fun v hh5 H locs hq hP hS => ?_)
      obtain ⟨rfl, rfl⟩ := hq
      refine lv_iload hx hb dL_law_1474 (lv_at hl 1 rfl) ?_
      refine lv_icmp_eq (tgt := 1481) hx hb dL_law_1476 (by decide) (fun _ => ?_) (fun c9 => absurd rfl c9)
      refine lv_iload hx hb dL_law_1481 (lv_at hl 1 rfl) ?_
      refine lv_if_ne (tgt := 1497) hx hb dL_law_1483 (by decide) (fun _ => ?_) (fun c => absurd c (by decide))
      refine lv_goto (tgt := 2940) hx hb dL_law_1497 (by decide) ?_
      exact kend ls H locs _ _ (by omega) (by omega) hS (lv_sub hl [2, 6] rfl)

theorem dL_law_1500 : decode cL_law 1500 = .ok (.aload_n 1, 1) := by decide +kernel
theorem dL_law_1501 : decode cL_law 1501 = .ok (.aload_n 0, 1) := by decide +kernel
theorem dL_law_1502 : decode cL_law 1502 = .ok (.iload 4, 2) := by decide +kernel
theorem dL_law_1504 : decode cL_law 1504 = .ok (.iconst 1, 1) := by decide +kernel
theorem dL_law_1505 : decode cL_law 1505 = .ok (.iadd, 1) := by decide +kernel
theorem dL_law_1506 : decode cL_law 1506 = .ok (.iaload, 1) := by decide +kernel
theorem dL_law_1507 : decode cL_law 1507 = .ok (.aload_n 0, 1) := by decide +kernel
theorem dL_law_1508 : decode cL_law 1508 = .ok (.iload 4, 2) := by decide +kernel
theorem dL_law_1510 : decode cL_law 1510 = .ok (.iconst 2, 1) := by decide +kernel
theorem dL_law_1511 : decode cL_law 1511 = .ok (.iadd, 1) := by decide +kernel
theorem dL_law_1512 : decode cL_law 1512 = .ok (.iaload, 1) := by decide +kernel
theorem dL_law_1513 : decode cL_law 1513 = .ok (.aload_n 0, 1) := by decide +kernel
theorem dL_law_1514 : decode cL_law 1514 = .ok (.iload 4, 2) := by decide +kernel
theorem dL_law_1516 : decode cL_law 1516 = .ok (.iconst 3, 1) := by decide +kernel
theorem dL_law_1517 : decode cL_law 1517 = .ok (.iadd, 1) := by decide +kernel
theorem dL_law_1518 : decode cL_law 1518 = .ok (.iaload, 1) := by decide +kernel
theorem dL_law_1519 : decode cL_law 1519 = .ok (.i2l, 1) := by decide +kernel
theorem dL_law_1520 : decode cL_law 1520 = .ok (.bipush 32, 2) := by decide +kernel
theorem dL_law_1522 : decode cL_law 1522 = .ok (.lshl, 1) := by decide +kernel
theorem dL_law_1523 : decode cL_law 1523 = .ok (.aload_n 0, 1) := by decide +kernel
theorem dL_law_1524 : decode cL_law 1524 = .ok (.iload 4, 2) := by decide +kernel
theorem dL_law_1526 : decode cL_law 1526 = .ok (.iconst 4, 1) := by decide +kernel
theorem dL_law_1527 : decode cL_law 1527 = .ok (.iadd, 1) := by decide +kernel
theorem dL_law_1528 : decode cL_law 1528 = .ok (.iaload, 1) := by decide +kernel
theorem dL_law_1529 : decode cL_law 1529 = .ok (.i2l, 1) := by decide +kernel
theorem dL_law_1530 : decode cL_law 1530 = .ok (.ldc2_w 161, 3) := by decide +kernel
theorem dL_law_1533 : decode cL_law 1533 = .ok (.land, 1) := by decide +kernel
theorem dL_law_1534 : decode cL_law 1534 = .ok (.lor, 1) := by decide +kernel
theorem dL_law_1535 : decode cL_law 1535 = .ok (.aload_n 0, 1) := by decide +kernel
theorem dL_law_1536 : decode cL_law 1536 = .ok (.iload 4, 2) := by decide +kernel
theorem dL_law_1538 : decode cL_law 1538 = .ok (.iconst 5, 1) := by decide +kernel
theorem dL_law_1539 : decode cL_law 1539 = .ok (.iadd, 1) := by decide +kernel
theorem dL_law_1540 : decode cL_law 1540 = .ok (.iaload, 1) := by decide +kernel
theorem dL_law_1541 : decode cL_law 1541 = .ok (.i2l, 1) := by decide +kernel
theorem dL_law_1542 : decode cL_law 1542 = .ok (.bipush 32, 2) := by decide +kernel
theorem dL_law_1544 : decode cL_law 1544 = .ok (.lshl, 1) := by decide +kernel
theorem dL_law_1545 : decode cL_law 1545 = .ok (.aload_n 0, 1) := by decide +kernel
theorem dL_law_1546 : decode cL_law 1546 = .ok (.iload 4, 2) := by decide +kernel
theorem dL_law_1548 : decode cL_law 1548 = .ok (.bipush 6, 2) := by decide +kernel
theorem dL_law_1550 : decode cL_law 1550 = .ok (.iadd, 1) := by decide +kernel
theorem dL_law_1551 : decode cL_law 1551 = .ok (.iaload, 1) := by decide +kernel
theorem dL_law_1552 : decode cL_law 1552 = .ok (.i2l, 1) := by decide +kernel
theorem dL_law_1553 : decode cL_law 1553 = .ok (.ldc2_w 161, 3) := by decide +kernel
theorem dL_law_1556 : decode cL_law 1556 = .ok (.land, 1) := by decide +kernel
theorem dL_law_1557 : decode cL_law 1557 = .ok (.lor, 1) := by decide +kernel
theorem dL_law_1558 : decode cL_law 1558 = .ok (.aload_n 3, 1) := by decide +kernel
theorem dL_law_1559 : decode cL_law 1559 = .ok (.invokestatic 204, 3) := by decide +kernel
theorem dL_law_1562 : decode cL_law 1562 = .ok (.istore 5, 2) := by decide +kernel
theorem dL_law_1564 : decode cL_law 1564 = .ok (.aload_n 2, 1) := by decide +kernel
theorem dL_law_1565 : decode cL_law 1565 = .ok (.aload_n 0, 1) := by decide +kernel
theorem dL_law_1566 : decode cL_law 1566 = .ok (.iload 4, 2) := by decide +kernel
theorem dL_law_1568 : decode cL_law 1568 = .ok (.iconst 1, 1) := by decide +kernel
theorem dL_law_1569 : decode cL_law 1569 = .ok (.iadd, 1) := by decide +kernel
theorem dL_law_1570 : decode cL_law 1570 = .ok (.iaload, 1) := by decide +kernel
theorem dL_law_1571 : decode cL_law 1571 = .ok (.aload_n 0, 1) := by decide +kernel
theorem dL_law_1572 : decode cL_law 1572 = .ok (.iload 4, 2) := by decide +kernel
theorem dL_law_1574 : decode cL_law 1574 = .ok (.iconst 2, 1) := by decide +kernel
theorem dL_law_1575 : decode cL_law 1575 = .ok (.iadd, 1) := by decide +kernel
theorem dL_law_1576 : decode cL_law 1576 = .ok (.iaload, 1) := by decide +kernel
theorem dL_law_1577 : decode cL_law 1577 = .ok (.aload_n 0, 1) := by decide +kernel
theorem dL_law_1578 : decode cL_law 1578 = .ok (.iload 4, 2) := by decide +kernel
theorem dL_law_1580 : decode cL_law 1580 = .ok (.iconst 3, 1) := by decide +kernel
theorem dL_law_1581 : decode cL_law 1581 = .ok (.iadd, 1) := by decide +kernel
theorem dL_law_1582 : decode cL_law 1582 = .ok (.iaload, 1) := by decide +kernel
theorem dL_law_1583 : decode cL_law 1583 = .ok (.i2l, 1) := by decide +kernel
theorem dL_law_1584 : decode cL_law 1584 = .ok (.bipush 32, 2) := by decide +kernel
theorem dL_law_1586 : decode cL_law 1586 = .ok (.lshl, 1) := by decide +kernel
theorem dL_law_1587 : decode cL_law 1587 = .ok (.aload_n 0, 1) := by decide +kernel
theorem dL_law_1588 : decode cL_law 1588 = .ok (.iload 4, 2) := by decide +kernel
theorem dL_law_1590 : decode cL_law 1590 = .ok (.iconst 4, 1) := by decide +kernel
theorem dL_law_1591 : decode cL_law 1591 = .ok (.iadd, 1) := by decide +kernel
theorem dL_law_1592 : decode cL_law 1592 = .ok (.iaload, 1) := by decide +kernel
theorem dL_law_1593 : decode cL_law 1593 = .ok (.i2l, 1) := by decide +kernel
theorem dL_law_1594 : decode cL_law 1594 = .ok (.ldc2_w 161, 3) := by decide +kernel
theorem dL_law_1597 : decode cL_law 1597 = .ok (.land, 1) := by decide +kernel
theorem dL_law_1598 : decode cL_law 1598 = .ok (.lor, 1) := by decide +kernel
theorem dL_law_1599 : decode cL_law 1599 = .ok (.aload_n 0, 1) := by decide +kernel
theorem dL_law_1600 : decode cL_law 1600 = .ok (.iload 4, 2) := by decide +kernel
theorem dL_law_1602 : decode cL_law 1602 = .ok (.iconst 5, 1) := by decide +kernel
theorem dL_law_1603 : decode cL_law 1603 = .ok (.iadd, 1) := by decide +kernel
theorem dL_law_1604 : decode cL_law 1604 = .ok (.iaload, 1) := by decide +kernel
theorem dL_law_1605 : decode cL_law 1605 = .ok (.i2l, 1) := by decide +kernel
theorem dL_law_1606 : decode cL_law 1606 = .ok (.bipush 32, 2) := by decide +kernel
theorem dL_law_1608 : decode cL_law 1608 = .ok (.lshl, 1) := by decide +kernel
theorem dL_law_1609 : decode cL_law 1609 = .ok (.aload_n 0, 1) := by decide +kernel
theorem dL_law_1610 : decode cL_law 1610 = .ok (.iload 4, 2) := by decide +kernel
theorem dL_law_1612 : decode cL_law 1612 = .ok (.bipush 6, 2) := by decide +kernel
theorem dL_law_1614 : decode cL_law 1614 = .ok (.iadd, 1) := by decide +kernel
theorem dL_law_1615 : decode cL_law 1615 = .ok (.iaload, 1) := by decide +kernel
theorem dL_law_1616 : decode cL_law 1616 = .ok (.i2l, 1) := by decide +kernel
theorem dL_law_1617 : decode cL_law 1617 = .ok (.ldc2_w 161, 3) := by decide +kernel
theorem dL_law_1620 : decode cL_law 1620 = .ok (.land, 1) := by decide +kernel
theorem dL_law_1621 : decode cL_law 1621 = .ok (.lor, 1) := by decide +kernel
theorem dL_law_1622 : decode cL_law 1622 = .ok (.invokevirtual 206, 3) := by decide +kernel
theorem dL_law_1625 : decode cL_law 1625 = .ok (.istore 6, 2) := by decide +kernel
theorem dL_law_1627 : decode cL_law 1627 = .ok (.aload_n 2, 1) := by decide +kernel
theorem dL_law_1628 : decode cL_law 1628 = .ok (.invokevirtual 147, 3) := by decide +kernel
theorem dL_law_1631 : decode cL_law 1631 = .ok (.iload 5, 2) := by decide +kernel
theorem dL_law_1633 : decode cL_law 1633 = .ok (.if_icmp .eq 5, 3) := by decide +kernel
theorem dL_law_1638 : decode cL_law 1638 = .ok (.iload 5, 2) := by decide +kernel
theorem dL_law_1640 : decode cL_law 1640 = .ok (.ifCond .ne 15, 3) := by decide +kernel
theorem dL_law_1655 : decode cL_law 1655 = .ok (.goto 1285, 3) := by decide +kernel
set_option maxRecDepth 100000 in
set_option maxHeartbeats 4000000 in
theorem lc_range {p : Program} {l : Launch} {e : Env} {mc ms : Nat} {s : State} {m : MethodId} {below : List Frame} {meth : Method} {c : Code} {H : Heap} {locs : List Loc} {cells slots : Nat} {Q : State → Prop} {rt0 : Option FieldType} {nm0 : String} {D : va_G} {cy : Nat → ClassId} {N0 : Nat} {tb : List ExceptionTableEntry} {h : qH} {ls : Array Slot} {b : Nat} {xs : Nat → Int32} {x sl bl kr vr : Nat} {hm ed : Int32} {f g : Nat → Option Nat} {y ms_ mb mw od pt fi re rc rs so ot cn la ro : Nat} {gr : Int32} {f2 g2 : Nat → Option Nat} {o : Nat} {fo : Nat → Int64} (C : qX p l s m #[Value.ref b] meth c RL cL_law 8 rt0 nm0 D cy N0 tb) (hX : va_X b 8 xs s s.heap) (hbl0 : b < s.heap.size) (hbA : ¬ qA N0 b) (hP : qP D N0 h H) (hS : va_S (qA N0) s.heap H locs) (hcm : cells + 20 ≤ mc) (hsm : slots + 200 ≤ ms) (hT : h x = some (.inr (6, [.int hm, .ref sl, .ref bl, .ref kr, .ref vr, .int 0, .int 0, .int ed]))) (hsl : h sl = some (.inl (cy 3, 24, .inr (.inr (.inr (.inr f)))))) (hF : ∀ i, i < 24 → f i = none) (hbl : h bl = some (.inl (cy 2, 4, .inr (.inr (.inr (.inr g)))))) (hB : ∀ j, j < 4 → ∃ (b rw : Nat) (kd ln e2 : Int32) (rt : Option Nat), qBd h g j b rw 0 kd ln e2 rt) (hY : h y = some (.inr (8, [.ref ms_, .ref mb, .ref mw, .int gr, .int 0, .int 0, .int 0, .ref od, .ref pt, .int 0, .int 0, .ref fi, .ref re, .int (nI 1), .ref rc, .ref rs, .ref so, .ref ot, .ref cn, .ref la, .int (nI 1), .ref ro, .int 0]))) (hms : h ms_ = some (.inl (cy 5, 24, .inr (.inr (.inr (.inr f2)))))) (hmb : h mb = some (.inl (cy 5, 4, .inr (.inr (.inr (.inr g2)))))) (hR : qRo h f2 24) (hRB : qRo h g2 4) (ho : h o = some (.inl (cy 1, 1, .inr (.inl fo)))) (hfi : h fi = some (.inl (cy 1, 1024, .inr (.inl (fun _ => 0))))) (hre : h re = some (.inl (cy 0, 1024, .inl (fun _ => 0)))) (hrc : h rc = some (.inl (cy 0, 1024, .inl (fun _ => 0)))) (hso : h so = some (.inl (cy 0, 1024, .inl (fun _ => 0)))) (hot : h ot = some (.inl (cy 0, 1024, .inl (fun _ => 0)))) (hcn : h cn = some (.inl (cy 1, 1024, .inr (.inl (fun _ => 0))))) (hla : h la = some (.inl (cy 1, 1024, .inr (.inl (fun _ => 0))))) (n_so_rc : rc ≠ so) (n_ot_rc : rc ≠ ot) (n_rc_re : re ≠ rc) (n_ot_so : so ≠ ot) (n_so_re : re ≠ so) (n_ot_re : re ≠ ot) (n_la_cn : cn ≠ la) (n_cn_fi : fi ≠ cn) (n_la_fi : fi ≠ la) (n_ms_sl : ms_ ≠ sl) (n_mb_sl : mb ≠ sl) (hl : lv_has ls 8 [(4, .int 1), (3, .ref o), (2, .ref y), (1, .ref x), (0, .ref b)]) (kend : ∀ (ls : Array Slot) (H : Heap) (locs : List Loc) (ce sl : Nat), ce ≤ cells + 20 → sl ≤ slots + 200 → va_S (qA N0) s.heap H locs → lv_has ls 8 [(4, .int 1), (0, .ref b)] → W p l e (qR 2048 84000 mc ms) s m #[Value.ref b] below meth c H locs ce sl Q (F0 m 2940 ls [])) : W p l e (qR 2048 84000 mc ms) s m #[Value.ref b] below meth c H locs cells slots Q (F0 m 1500 ls []) := by
  have hx := C.1
  have hb := C.2.1
  refine lv_aload_n hx hb dL_law_1500 rfl (lv_at hl 3 rfl) ?_
  refine lv_aload_n hx hb dL_law_1501 rfl (lv_at hl 4 rfl) ?_
  refine lv_iload hx hb dL_law_1502 (lv_at hl 0 rfl) ?_
  refine lv_iconst (v := 1) hx hb dL_law_1504 (by decide) ?_
  refine lv_iadd hx hb dL_law_1505 ?_
  refine va_sld hx hb hX hbl0 hbA hS (by unfold vp_in; decide) dL_law_1506 ?_
  refine lv_topi (fun s1 es1 => ?_)
  refine lv_aload_n hx hb dL_law_1507 rfl (lv_at hl 4 rfl) ?_
  refine lv_iload hx hb dL_law_1508 (lv_at hl 0 rfl) ?_
  refine lv_iconst (v := 2) hx hb dL_law_1510 (by decide) ?_
  refine lv_iadd hx hb dL_law_1511 ?_
  refine va_sld hx hb hX hbl0 hbA hS (by unfold vp_in; decide) dL_law_1512 ?_
  refine lv_topi (fun s2 es2 => ?_)
  refine lv_aload_n hx hb dL_law_1513 rfl (lv_at hl 4 rfl) ?_
  refine lv_iload hx hb dL_law_1514 (lv_at hl 0 rfl) ?_
  refine lv_iconst (v := 3) hx hb dL_law_1516 (by decide) ?_
  refine lv_iadd hx hb dL_law_1517 ?_
  refine va_sld hx hb hX hbl0 hbA hS (by unfold vp_in; decide) dL_law_1518 ?_
  refine lv_topi (fun s3 es3 => ?_)
  refine lv_i2l hx hb dL_law_1519 rfl ?_
  refine lv_bipush (v := 32) hx hb dL_law_1520 (by decide) ?_
  refine lv_lshl hx hb dL_law_1522 rfl ?_
  refine lv_aload_n hx hb dL_law_1523 rfl (lv_at hl 4 rfl) ?_
  refine lv_iload hx hb dL_law_1524 (lv_at hl 0 rfl) ?_
  refine lv_iconst (v := 4) hx hb dL_law_1526 (by decide) ?_
  refine lv_iadd hx hb dL_law_1527 ?_
  refine va_sld hx hb hX hbl0 hbA hS (by unfold vp_in; decide) dL_law_1528 ?_
  refine lv_topi (fun s4 es4 => ?_)
  refine lv_i2l hx hb dL_law_1529 rfl ?_
  refine lv_ldc2 hx hb C.2.2.2.2.1 (C.2.2.2.2.2.1 _ g1484) dL_law_1530 ?_
  refine lv_land hx hb dL_law_1533 ?_
  refine lv_lor hx hb dL_law_1534 ?_
  refine lv_topl (fun q3 eq3 => ?_)
  refine lv_aload_n hx hb dL_law_1535 rfl (lv_at hl 4 rfl) ?_
  refine lv_iload hx hb dL_law_1536 (lv_at hl 0 rfl) ?_
  refine lv_iconst (v := 5) hx hb dL_law_1538 (by decide) ?_
  refine lv_iadd hx hb dL_law_1539 ?_
  refine va_sld hx hb hX hbl0 hbA hS (by unfold vp_in; decide) dL_law_1540 ?_
  refine lv_topi (fun s5 es5 => ?_)
  refine lv_i2l hx hb dL_law_1541 rfl ?_
  refine lv_bipush (v := 32) hx hb dL_law_1542 (by decide) ?_
  refine lv_lshl hx hb dL_law_1544 rfl ?_
  refine lv_aload_n hx hb dL_law_1545 rfl (lv_at hl 4 rfl) ?_
  refine lv_iload hx hb dL_law_1546 (lv_at hl 0 rfl) ?_
  refine lv_bipush (v := 6) hx hb dL_law_1548 (by decide) ?_
  refine lv_iadd hx hb dL_law_1550 ?_
  refine va_sld hx hb hX hbl0 hbA hS (by unfold vp_in; decide) dL_law_1551 ?_
  refine lv_topi (fun s6 es6 => ?_)
  refine lv_i2l hx hb dL_law_1552 rfl ?_
  refine lv_ldc2 hx hb C.2.2.2.2.1 (C.2.2.2.2.2.1 _ g1484) dL_law_1553 ?_
  refine lv_land hx hb dL_law_1556 ?_
  refine lv_lor hx hb dL_law_1557 ?_
  refine lv_topl (fun q5 eq5 => ?_)
  refine lv_aload_n hx hb dL_law_1558 rfl (lv_at hl 1 rfl) ?_
  refine q_callSW (rest := []) C (c_L_range_0 l D cy N0 (h) x sl bl kr vr hm 0 0 ed f s1 s2 q3 q5 o hT hsl hF) kwL_range g824 g825 hP hS (by omega) hl.1 rfl (by decide) (by omega) dL_law_1559 (fun v hh1 H locs hq hP hS => ?_)
  obtain ⟨rfl, hq⟩ := hq
  rcases hq with ⟨rfl, gA⟩ | ⟨rfl, gA⟩
  · refine lv_istore (lv' := [(5, .int 1), (4, .int 1), (3, .ref o), (2, .ref y), (1, .ref x), (0, .ref b)]) hx hb dL_law_1562 hl (by decide) rfl (fun ls hl => ?_)
    refine lv_aload_n hx hb dL_law_1564 rfl (lv_at hl 3 rfl) ?_
    refine lv_aload_n hx hb dL_law_1565 rfl (lv_at hl 5 rfl) ?_
    refine lv_iload hx hb dL_law_1566 (lv_at hl 1 rfl) ?_
    refine lv_iconst (v := 1) hx hb dL_law_1568 (by decide) ?_
    refine lv_iadd hx hb dL_law_1569 ?_
    refine va_sld hx hb hX hbl0 hbA hS (by unfold vp_in; decide) dL_law_1570 ?_
    rw [← es1]
    refine lv_aload_n hx hb dL_law_1571 rfl (lv_at hl 5 rfl) ?_
    refine lv_iload hx hb dL_law_1572 (lv_at hl 1 rfl) ?_
    refine lv_iconst (v := 2) hx hb dL_law_1574 (by decide) ?_
    refine lv_iadd hx hb dL_law_1575 ?_
    refine va_sld hx hb hX hbl0 hbA hS (by unfold vp_in; decide) dL_law_1576 ?_
    rw [← es2]
    refine lv_aload_n hx hb dL_law_1577 rfl (lv_at hl 5 rfl) ?_
    refine lv_iload hx hb dL_law_1578 (lv_at hl 1 rfl) ?_
    refine lv_iconst (v := 3) hx hb dL_law_1580 (by decide) ?_
    refine lv_iadd hx hb dL_law_1581 ?_
    refine va_sld hx hb hX hbl0 hbA hS (by unfold vp_in; decide) dL_law_1582 ?_
    rw [← es3]
    refine lv_i2l hx hb dL_law_1583 rfl ?_
    refine lv_bipush (v := 32) hx hb dL_law_1584 (by decide) ?_
    refine lv_lshl hx hb dL_law_1586 rfl ?_
    refine lv_aload_n hx hb dL_law_1587 rfl (lv_at hl 5 rfl) ?_
    refine lv_iload hx hb dL_law_1588 (lv_at hl 1 rfl) ?_
    refine lv_iconst (v := 4) hx hb dL_law_1590 (by decide) ?_
    refine lv_iadd hx hb dL_law_1591 ?_
    refine va_sld hx hb hX hbl0 hbA hS (by unfold vp_in; decide) dL_law_1592 ?_
    rw [← es4]
    refine lv_i2l hx hb dL_law_1593 rfl ?_
    refine lv_ldc2 hx hb C.2.2.2.2.1 (C.2.2.2.2.2.1 _ g1484) dL_law_1594 ?_
    refine lv_land hx hb dL_law_1597 ?_
    refine lv_lor hx hb dL_law_1598 ?_
    rw [← eq3]
    refine lv_aload_n hx hb dL_law_1599 rfl (lv_at hl 5 rfl) ?_
    refine lv_iload hx hb dL_law_1600 (lv_at hl 1 rfl) ?_
    refine lv_iconst (v := 5) hx hb dL_law_1602 (by decide) ?_
    refine lv_iadd hx hb dL_law_1603 ?_
    refine va_sld hx hb hX hbl0 hbA hS (by unfold vp_in; decide) dL_law_1604 ?_
    rw [← es5]
    refine lv_i2l hx hb dL_law_1605 rfl ?_
    refine lv_bipush (v := 32) hx hb dL_law_1606 (by decide) ?_
    refine lv_lshl hx hb dL_law_1608 rfl ?_
    refine lv_aload_n hx hb dL_law_1609 rfl (lv_at hl 5 rfl) ?_
    refine lv_iload hx hb dL_law_1610 (lv_at hl 1 rfl) ?_
    refine lv_bipush (v := 6) hx hb dL_law_1612 (by decide) ?_
    refine lv_iadd hx hb dL_law_1614 ?_
    refine va_sld hx hb hX hbl0 hbA hS (by unfold vp_in; decide) dL_law_1615 ?_
    rw [← es6]
    refine lv_i2l hx hb dL_law_1616 rfl ?_
    refine lv_ldc2 hx hb C.2.2.2.2.1 (C.2.2.2.2.2.1 _ g1484) dL_law_1617 ?_
    refine lv_land hx hb dL_law_1620 ?_
    refine lv_lor hx hb dL_law_1621 ?_
    rw [← eq5]
    refine q_callV (rest := []) C (c_X8_range_0 l D cy N0 (h) y ms_ mb mw od pt fi re rc rs so ot cn la ro gr 0 0 0 0 0 (nI 1) (nI 1) 0 f2 g2 s1 s2 q3 q5 hY hms hmb hR hRB) kX8_range g1409 g1410 rfl g1411 g4 hP hS hY (by first | decide | omega) hl.1 rfl (by decide) (by first | decide | omega) dL_law_1622 (fun q ce E h' H1 locs1 hE => hE.elim) (fun v hh2 H locs hq hP hS => ?_)
    obtain ⟨cd', rfl, rfl, hq⟩ := hq
    rcases hq with ⟨gB, rfl⟩ | ⟨gB, rfl⟩
    · replace hT := (qs_ne (h := h) (a := y) (o := (.inr (8, [.ref ms_, .ref mb, .ref mw, .int gr, .int 1, .int 0, .int 0, .ref od, .ref pt, .int 0, .int 0, .ref fi, .ref re, .int (nI 1), .ref rc, .ref rs, .ref so, .ref ot, .ref cn, .ref la, .int (nI 1), .ref ro, .int 0]))) (fun q => by subst q; have := hT.symm.trans hY; first | cases this | simp at this)).trans hT
      replace hsl := (qs_ne (h := h) (a := y) (o := (.inr (8, [.ref ms_, .ref mb, .ref mw, .int gr, .int 1, .int 0, .int 0, .ref od, .ref pt, .int 0, .int 0, .ref fi, .ref re, .int (nI 1), .ref rc, .ref rs, .ref so, .ref ot, .ref cn, .ref la, .int (nI 1), .ref ro, .int 0]))) (fun q => by subst q; have := hsl.symm.trans hY; first | cases this | simp at this)).trans hsl
      replace ho := (qs_ne (h := h) (a := y) (o := (.inr (8, [.ref ms_, .ref mb, .ref mw, .int gr, .int 1, .int 0, .int 0, .ref od, .ref pt, .int 0, .int 0, .ref fi, .ref re, .int (nI 1), .ref rc, .ref rs, .ref so, .ref ot, .ref cn, .ref la, .int (nI 1), .ref ro, .int 0]))) (fun q => by subst q; have := ho.symm.trans hY; first | cases this | simp at this)).trans ho
      replace hY : (qs h y (.inr (8, [.ref ms_, .ref mb, .ref mw, .int gr, .int 1, .int 0, .int 0, .ref od, .ref pt, .int 0, .int 0, .ref fi, .ref re, .int (nI 1), .ref rc, .ref rs, .ref so, .ref ot, .ref cn, .ref la, .int (nI 1), .ref ro, .int 0]))) y = some (.inr (8, [.ref ms_, .ref mb, .ref mw, .int gr, .int 1, .int 0, .int 0, .ref od, .ref pt, .int 0, .int 0, .ref fi, .ref re, .int (nI 1), .ref rc, .ref rs, .ref so, .ref ot, .ref cn, .ref la, .int (nI 1), .ref ro, .int 0])) := qs_self
      refine lv_istore (lv' := [(6, .int 0), (5, .int 1), (4, .int 1), (3, .ref o), (2, .ref y), (1, .ref x), (0, .ref b)]) hx hb dL_law_1625 hl (by decide) rfl (fun ls hl => ?_)
      refine lv_aload_n hx hb dL_law_1627 rfl (lv_at hl 4 rfl) ?_
      refine q_callV (rest := []) C (c_X8_thrown l D cy N0 (qs h y (.inr (8, [.ref ms_, .ref mb, .ref mw, .int gr, .int 1, .int 0, .int 0, .ref od, .ref pt, .int 0, .int 0, .ref fi, .ref re, .int (nI 1), .ref rc, .ref rs, .ref so, .ref ot, .ref cn, .ref la, .int (nI 1), .ref ro, .int 0]))) y ms_ mb mw od pt fi re rc rs so ot cn la ro gr 1 0 0 0 0 (nI 1) (nI 1) 0 hY) kX8_thrown g1238 g1239 rfl g1240 g4 hP hS hY (by first | decide | omega) hl.1 rfl (by decide) (by first | decide | omega) dL_law_1628 (fun q ce E h' H1 locs1 hE => hE.elim) (fun v hh3 H locs hq hP hS => ?_)
      obtain ⟨rfl, rfl⟩ := hq
      refine lv_iload hx hb dL_law_1631 (lv_at hl 1 rfl) ?_
      refine lv_icmp_eq (tgt := 1638) hx hb dL_law_1633 (by decide) (fun _ => ?_) (fun c9 => absurd rfl c9)
      refine lv_iload hx hb dL_law_1638 (lv_at hl 1 rfl) ?_
      refine lv_if_ne (tgt := 1655) hx hb dL_law_1640 (by decide) (fun _ => ?_) (fun c => absurd c (by decide))
      refine lv_goto (tgt := 2940) hx hb dL_law_1655 (by decide) ?_
      exact kend ls H locs _ _ (by omega) (by omega) hS (lv_sub hl [2, 6] rfl)
    · exact absurd gB gA
  · refine lv_istore (lv' := [(5, .int 2), (4, .int 1), (3, .ref o), (2, .ref y), (1, .ref x), (0, .ref b)]) hx hb dL_law_1562 hl (by decide) rfl (fun ls hl => ?_)
    refine lv_aload_n hx hb dL_law_1564 rfl (lv_at hl 3 rfl) ?_
    refine lv_aload_n hx hb dL_law_1565 rfl (lv_at hl 5 rfl) ?_
    refine lv_iload hx hb dL_law_1566 (lv_at hl 1 rfl) ?_
    refine lv_iconst (v := 1) hx hb dL_law_1568 (by decide) ?_
    refine lv_iadd hx hb dL_law_1569 ?_
    refine va_sld hx hb hX hbl0 hbA hS (by unfold vp_in; decide) dL_law_1570 ?_
    rw [← es1]
    refine lv_aload_n hx hb dL_law_1571 rfl (lv_at hl 5 rfl) ?_
    refine lv_iload hx hb dL_law_1572 (lv_at hl 1 rfl) ?_
    refine lv_iconst (v := 2) hx hb dL_law_1574 (by decide) ?_
    refine lv_iadd hx hb dL_law_1575 ?_
    refine va_sld hx hb hX hbl0 hbA hS (by unfold vp_in; decide) dL_law_1576 ?_
    rw [← es2]
    refine lv_aload_n hx hb dL_law_1577 rfl (lv_at hl 5 rfl) ?_
    refine lv_iload hx hb dL_law_1578 (lv_at hl 1 rfl) ?_
    refine lv_iconst (v := 3) hx hb dL_law_1580 (by decide) ?_
    refine lv_iadd hx hb dL_law_1581 ?_
    refine va_sld hx hb hX hbl0 hbA hS (by unfold vp_in; decide) dL_law_1582 ?_
    rw [← es3]
    refine lv_i2l hx hb dL_law_1583 rfl ?_
    refine lv_bipush (v := 32) hx hb dL_law_1584 (by decide) ?_
    refine lv_lshl hx hb dL_law_1586 rfl ?_
    refine lv_aload_n hx hb dL_law_1587 rfl (lv_at hl 5 rfl) ?_
    refine lv_iload hx hb dL_law_1588 (lv_at hl 1 rfl) ?_
    refine lv_iconst (v := 4) hx hb dL_law_1590 (by decide) ?_
    refine lv_iadd hx hb dL_law_1591 ?_
    refine va_sld hx hb hX hbl0 hbA hS (by unfold vp_in; decide) dL_law_1592 ?_
    rw [← es4]
    refine lv_i2l hx hb dL_law_1593 rfl ?_
    refine lv_ldc2 hx hb C.2.2.2.2.1 (C.2.2.2.2.2.1 _ g1484) dL_law_1594 ?_
    refine lv_land hx hb dL_law_1597 ?_
    refine lv_lor hx hb dL_law_1598 ?_
    rw [← eq3]
    refine lv_aload_n hx hb dL_law_1599 rfl (lv_at hl 5 rfl) ?_
    refine lv_iload hx hb dL_law_1600 (lv_at hl 1 rfl) ?_
    refine lv_iconst (v := 5) hx hb dL_law_1602 (by decide) ?_
    refine lv_iadd hx hb dL_law_1603 ?_
    refine va_sld hx hb hX hbl0 hbA hS (by unfold vp_in; decide) dL_law_1604 ?_
    rw [← es5]
    refine lv_i2l hx hb dL_law_1605 rfl ?_
    refine lv_bipush (v := 32) hx hb dL_law_1606 (by decide) ?_
    refine lv_lshl hx hb dL_law_1608 rfl ?_
    refine lv_aload_n hx hb dL_law_1609 rfl (lv_at hl 5 rfl) ?_
    refine lv_iload hx hb dL_law_1610 (lv_at hl 1 rfl) ?_
    refine lv_bipush (v := 6) hx hb dL_law_1612 (by decide) ?_
    refine lv_iadd hx hb dL_law_1614 ?_
    refine va_sld hx hb hX hbl0 hbA hS (by unfold vp_in; decide) dL_law_1615 ?_
    rw [← es6]
    refine lv_i2l hx hb dL_law_1616 rfl ?_
    refine lv_ldc2 hx hb C.2.2.2.2.1 (C.2.2.2.2.2.1 _ g1484) dL_law_1617 ?_
    refine lv_land hx hb dL_law_1620 ?_
    refine lv_lor hx hb dL_law_1621 ?_
    rw [← eq5]
    refine q_callV (rest := []) C (c_X8_range_0 l D cy N0 (h) y ms_ mb mw od pt fi re rc rs so ot cn la ro gr 0 0 0 0 0 (nI 1) (nI 1) 0 f2 g2 s1 s2 q3 q5 hY hms hmb hR hRB) kX8_range g1409 g1410 rfl g1411 g4 hP hS hY (by first | decide | omega) hl.1 rfl (by decide) (by first | decide | omega) dL_law_1622 (fun q ce E h' H1 locs1 hE => hE.elim) (fun v hh4 H locs hq hP hS => ?_)
    obtain ⟨cd', rfl, rfl, hq⟩ := hq
    rcases hq with ⟨gB, rfl⟩ | ⟨gB, rfl⟩
    · exact absurd gA gB
    · replace hT := (qs_ne (h := h) (a := y) (o := (.inr (8, [.ref ms_, .ref mb, .ref mw, .int gr, .int 2, .int 0, .int 0, .ref od, .ref pt, .int 0, .int 0, .ref fi, .ref re, .int (nI 1), .ref rc, .ref rs, .ref so, .ref ot, .ref cn, .ref la, .int (nI 1), .ref ro, .int 0]))) (fun q => by subst q; have := hT.symm.trans hY; first | cases this | simp at this)).trans hT
      replace hsl := (qs_ne (h := h) (a := y) (o := (.inr (8, [.ref ms_, .ref mb, .ref mw, .int gr, .int 2, .int 0, .int 0, .ref od, .ref pt, .int 0, .int 0, .ref fi, .ref re, .int (nI 1), .ref rc, .ref rs, .ref so, .ref ot, .ref cn, .ref la, .int (nI 1), .ref ro, .int 0]))) (fun q => by subst q; have := hsl.symm.trans hY; first | cases this | simp at this)).trans hsl
      replace ho := (qs_ne (h := h) (a := y) (o := (.inr (8, [.ref ms_, .ref mb, .ref mw, .int gr, .int 2, .int 0, .int 0, .ref od, .ref pt, .int 0, .int 0, .ref fi, .ref re, .int (nI 1), .ref rc, .ref rs, .ref so, .ref ot, .ref cn, .ref la, .int (nI 1), .ref ro, .int 0]))) (fun q => by subst q; have := ho.symm.trans hY; first | cases this | simp at this)).trans ho
      replace hY : (qs h y (.inr (8, [.ref ms_, .ref mb, .ref mw, .int gr, .int 2, .int 0, .int 0, .ref od, .ref pt, .int 0, .int 0, .ref fi, .ref re, .int (nI 1), .ref rc, .ref rs, .ref so, .ref ot, .ref cn, .ref la, .int (nI 1), .ref ro, .int 0]))) y = some (.inr (8, [.ref ms_, .ref mb, .ref mw, .int gr, .int 2, .int 0, .int 0, .ref od, .ref pt, .int 0, .int 0, .ref fi, .ref re, .int (nI 1), .ref rc, .ref rs, .ref so, .ref ot, .ref cn, .ref la, .int (nI 1), .ref ro, .int 0])) := qs_self
      refine lv_istore (lv' := [(6, .int 0), (5, .int 2), (4, .int 1), (3, .ref o), (2, .ref y), (1, .ref x), (0, .ref b)]) hx hb dL_law_1625 hl (by decide) rfl (fun ls hl => ?_)
      refine lv_aload_n hx hb dL_law_1627 rfl (lv_at hl 4 rfl) ?_
      refine q_callV (rest := []) C (c_X8_thrown l D cy N0 (qs h y (.inr (8, [.ref ms_, .ref mb, .ref mw, .int gr, .int 2, .int 0, .int 0, .ref od, .ref pt, .int 0, .int 0, .ref fi, .ref re, .int (nI 1), .ref rc, .ref rs, .ref so, .ref ot, .ref cn, .ref la, .int (nI 1), .ref ro, .int 0]))) y ms_ mb mw od pt fi re rc rs so ot cn la ro gr 2 0 0 0 0 (nI 1) (nI 1) 0 hY) kX8_thrown g1238 g1239 rfl g1240 g4 hP hS hY (by first | decide | omega) hl.1 rfl (by decide) (by first | decide | omega) dL_law_1628 (fun q ce E h' H1 locs1 hE => hE.elim) (fun v hh5 H locs hq hP hS => ?_)
      obtain ⟨rfl, rfl⟩ := hq
      refine lv_iload hx hb dL_law_1631 (lv_at hl 1 rfl) ?_
      refine lv_icmp_eq (tgt := 1638) hx hb dL_law_1633 (by decide) (fun _ => ?_) (fun c9 => absurd rfl c9)
      refine lv_iload hx hb dL_law_1638 (lv_at hl 1 rfl) ?_
      refine lv_if_ne (tgt := 1655) hx hb dL_law_1640 (by decide) (fun _ => ?_) (fun c => absurd c (by decide))
      refine lv_goto (tgt := 2940) hx hb dL_law_1655 (by decide) ?_
      exact kend ls H locs _ _ (by omega) (by omega) hS (lv_sub hl [2, 6] rfl)
