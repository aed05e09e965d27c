theorem dL_law_1658 : decode cL_law 1658 = .ok (.aload_n 1, 1) := by decide +kernel
theorem dL_law_1659 : decode cL_law 1659 = .ok (.aload_n 0, 1) := by decide +kernel
theorem dL_law_1660 : decode cL_law 1660 = .ok (.iload 4, 2) := by decide +kernel
theorem dL_law_1662 : decode cL_law 1662 = .ok (.iconst 1, 1) := by decide +kernel
theorem dL_law_1663 : decode cL_law 1663 = .ok (.iadd, 1) := by decide +kernel
theorem dL_law_1664 : decode cL_law 1664 = .ok (.iaload, 1) := by decide +kernel
theorem dL_law_1665 : decode cL_law 1665 = .ok (.aload_n 0, 1) := by decide +kernel
theorem dL_law_1666 : decode cL_law 1666 = .ok (.iload 4, 2) := by decide +kernel
theorem dL_law_1668 : decode cL_law 1668 = .ok (.iconst 2, 1) := by decide +kernel
theorem dL_law_1669 : decode cL_law 1669 = .ok (.iadd, 1) := by decide +kernel
theorem dL_law_1670 : decode cL_law 1670 = .ok (.iaload, 1) := by decide +kernel
theorem dL_law_1671 : decode cL_law 1671 = .ok (.aload_n 0, 1) := by decide +kernel
theorem dL_law_1672 : decode cL_law 1672 = .ok (.iload 4, 2) := by decide +kernel
theorem dL_law_1674 : decode cL_law 1674 = .ok (.iconst 3, 1) := by decide +kernel
theorem dL_law_1675 : decode cL_law 1675 = .ok (.iadd, 1) := by decide +kernel
theorem dL_law_1676 : decode cL_law 1676 = .ok (.iaload, 1) := by decide +kernel
theorem dL_law_1677 : decode cL_law 1677 = .ok (.aload_n 3, 1) := by decide +kernel
theorem dL_law_1678 : decode cL_law 1678 = .ok (.invokestatic 207, 3) := by decide +kernel
theorem dL_law_1681 : decode cL_law 1681 = .ok (.istore 5, 2) := by decide +kernel
theorem dL_law_1683 : decode cL_law 1683 = .ok (.aload_n 2, 1) := by decide +kernel
theorem dL_law_1684 : decode cL_law 1684 = .ok (.aload_n 0, 1) := by decide +kernel
theorem dL_law_1685 : decode cL_law 1685 = .ok (.iload 4, 2) := by decide +kernel
theorem dL_law_1687 : decode cL_law 1687 = .ok (.iconst 1, 1) := by decide +kernel
theorem dL_law_1688 : decode cL_law 1688 = .ok (.iadd, 1) := by decide +kernel
theorem dL_law_1689 : decode cL_law 1689 = .ok (.iaload, 1) := by decide +kernel
theorem dL_law_1690 : decode cL_law 1690 = .ok (.aload_n 0, 1) := by decide +kernel
theorem dL_law_1691 : decode cL_law 1691 = .ok (.iload 4, 2) := by decide +kernel
theorem dL_law_1693 : decode cL_law 1693 = .ok (.iconst 2, 1) := by decide +kernel
theorem dL_law_1694 : decode cL_law 1694 = .ok (.iadd, 1) := by decide +kernel
theorem dL_law_1695 : decode cL_law 1695 = .ok (.iaload, 1) := by decide +kernel
theorem dL_law_1696 : decode cL_law 1696 = .ok (.aload_n 0, 1) := by decide +kernel
theorem dL_law_1697 : decode cL_law 1697 = .ok (.iload 4, 2) := by decide +kernel
theorem dL_law_1699 : decode cL_law 1699 = .ok (.iconst 3, 1) := by decide +kernel
theorem dL_law_1700 : decode cL_law 1700 = .ok (.iadd, 1) := by decide +kernel
theorem dL_law_1701 : decode cL_law 1701 = .ok (.iaload, 1) := by decide +kernel
theorem dL_law_1702 : decode cL_law 1702 = .ok (.invokevirtual 210, 3) := by decide +kernel
theorem dL_law_1705 : decode cL_law 1705 = .ok (.istore 6, 2) := by decide +kernel
theorem dL_law_1707 : decode cL_law 1707 = .ok (.aload_n 2, 1) := by decide +kernel
theorem dL_law_1708 : decode cL_law 1708 = .ok (.invokevirtual 147, 3) := by decide +kernel
theorem dL_law_1711 : decode cL_law 1711 = .ok (.iload 5, 2) := by decide +kernel
theorem dL_law_1713 : decode cL_law 1713 = .ok (.if_icmp .eq 5, 3) := by decide +kernel
theorem dL_law_1718 : decode cL_law 1718 = .ok (.iload 5, 2) := by decide +kernel
theorem dL_law_1720 : decode cL_law 1720 = .ok (.ifCond .ne 15, 3) := by decide +kernel
theorem dL_law_1735 : decode cL_law 1735 = .ok (.goto 1205, 3) := by decide +kernel
set_option maxRecDepth 100000 in
set_option maxHeartbeats 4000000 in
theorem lc_join {p : Program} {l : Launch} {e : Env} {mc ms : Nat} {s : State} {m : MethodId} {below : List Frame} {meth : Method} {c : Code} {H : Heap} {locs : List Loc} {cells slots : Nat} {Q : State → Prop} {rt0 : Option FieldType} {nm0 : String} {D : va_G} {cy : Nat → ClassId} {N0 : Nat} {tb : List ExceptionTableEntry} {h : qH} {ls : Array Slot} {b : Nat} {xs : Nat → Int32} {x sl bl kr vr : Nat} {hm ed : Int32} {f g : Nat → Option Nat} {y ms_ mb mw od pt fi re rc rs so ot cn la ro : Nat} {gr : Int32} {f2 g2 : Nat → Option Nat} {o : Nat} {fo : Nat → Int64} (C : qX p l s m #[Value.ref b] meth c RL cL_law 8 rt0 nm0 D cy N0 tb) (hX : va_X b 8 xs s s.heap) (hbl0 : b < s.heap.size) (hbA : ¬ qA N0 b) (hP : qP D N0 h H) (hS : va_S (qA N0) s.heap H locs) (hcm : cells + 20 ≤ mc) (hsm : slots + 200 ≤ ms) (hT : h x = some (.inr (6, [.int hm, .ref sl, .ref bl, .ref kr, .ref vr, .int 0, .int 0, .int ed]))) (hsl : h sl = some (.inl (cy 3, 24, .inr (.inr (.inr (.inr f)))))) (hF : ∀ i, i < 24 → f i = none) (hbl : h bl = some (.inl (cy 2, 4, .inr (.inr (.inr (.inr g)))))) (hB : ∀ j, j < 4 → ∃ (b rw : Nat) (kd ln e2 : Int32) (rt : Option Nat), qBd h g j b rw 0 kd ln e2 rt) (hY : h y = some (.inr (8, [.ref ms_, .ref mb, .ref mw, .int gr, .int 0, .int 0, .int 0, .ref od, .ref pt, .int 0, .int 0, .ref fi, .ref re, .int (nI 1), .ref rc, .ref rs, .ref so, .ref ot, .ref cn, .ref la, .int (nI 1), .ref ro, .int 0]))) (hms : h ms_ = some (.inl (cy 5, 24, .inr (.inr (.inr (.inr f2)))))) (hmb : h mb = some (.inl (cy 5, 4, .inr (.inr (.inr (.inr g2)))))) (hR : qRo h f2 24) (hRB : qRo h g2 4) (ho : h o = some (.inl (cy 1, 1, .inr (.inl fo)))) (hfi : h fi = some (.inl (cy 1, 1024, .inr (.inl (fun _ => 0))))) (hre : h re = some (.inl (cy 0, 1024, .inl (fun _ => 0)))) (hrc : h rc = some (.inl (cy 0, 1024, .inl (fun _ => 0)))) (hso : h so = some (.inl (cy 0, 1024, .inl (fun _ => 0)))) (hot : h ot = some (.inl (cy 0, 1024, .inl (fun _ => 0)))) (hcn : h cn = some (.inl (cy 1, 1024, .inr (.inl (fun _ => 0))))) (hla : h la = some (.inl (cy 1, 1024, .inr (.inl (fun _ => 0))))) (n_so_rc : rc ≠ so) (n_ot_rc : rc ≠ ot) (n_rc_re : re ≠ rc) (n_ot_so : so ≠ ot) (n_so_re : re ≠ so) (n_ot_re : re ≠ ot) (n_la_cn : cn ≠ la) (n_cn_fi : fi ≠ cn) (n_la_fi : fi ≠ la) (n_ms_sl : ms_ ≠ sl) (n_mb_sl : mb ≠ sl) (hl : lv_has ls 8 [(4, .int 1), (3, .ref o), (2, .ref y), (1, .ref x), (0, .ref b)]) (kend : ∀ (ls : Array Slot) (H : Heap) (locs : List Loc) (ce sl : Nat), ce ≤ cells + 20 → sl ≤ slots + 200 → va_S (qA N0) s.heap H locs → lv_has ls 8 [(4, .int 1), (0, .ref b)] → W p l e (qR 2048 84000 mc ms) s m #[Value.ref b] below meth c H locs ce sl Q (F0 m 2940 ls [])) : W p l e (qR 2048 84000 mc ms) s m #[Value.ref b] below meth c H locs cells slots Q (F0 m 1658 ls []) := by
  have hx := C.1
  have hb := C.2.1
  refine lv_aload_n hx hb dL_law_1658 rfl (lv_at hl 3 rfl) ?_
  refine lv_aload_n hx hb dL_law_1659 rfl (lv_at hl 4 rfl) ?_
  refine lv_iload hx hb dL_law_1660 (lv_at hl 0 rfl) ?_
  refine lv_iconst (v := 1) hx hb dL_law_1662 (by decide) ?_
  refine lv_iadd hx hb dL_law_1663 ?_
  refine va_sld hx hb hX hbl0 hbA hS (by unfold vp_in; decide) dL_law_1664 ?_
  refine lv_topi (fun s1 es1 => ?_)
  refine lv_aload_n hx hb dL_law_1665 rfl (lv_at hl 4 rfl) ?_
  refine lv_iload hx hb dL_law_1666 (lv_at hl 0 rfl) ?_
  refine lv_iconst (v := 2) hx hb dL_law_1668 (by decide) ?_
  refine lv_iadd hx hb dL_law_1669 ?_
  refine va_sld hx hb hX hbl0 hbA hS (by unfold vp_in; decide) dL_law_1670 ?_
  refine lv_topi (fun s2 es2 => ?_)
  refine lv_aload_n hx hb dL_law_1671 rfl (lv_at hl 4 rfl) ?_
  refine lv_iload hx hb dL_law_1672 (lv_at hl 0 rfl) ?_
  refine lv_iconst (v := 3) hx hb dL_law_1674 (by decide) ?_
  refine lv_iadd hx hb dL_law_1675 ?_
  refine va_sld hx hb hX hbl0 hbA hS (by unfold vp_in; decide) dL_law_1676 ?_
  refine lv_topi (fun s3 es3 => ?_)
  refine lv_aload_n hx hb dL_law_1677 rfl (lv_at hl 1 rfl) ?_
  refine q_callSW (rest := []) C (c_L_join_0 l D cy N0 (h) x sl bl kr vr hm 0 0 ed f s1 s2 s3 o hT hsl hF) kwL_join g833 g834 hP hS (by omega) hl.1 rfl (by decide) (by omega) dL_law_1678 (fun v hh1 H locs hq hP hS => ?_)
  obtain ⟨rfl, hq⟩ := hq
  rcases hq with ⟨rfl, gA⟩ | ⟨rfl, gA⟩
  · refine lv_istore (lv' := [(5, .int 1), (4, .int 1), (3, .ref o), (2, .ref y), (1, .ref x), (0, .ref b)]) hx hb dL_law_1681 hl (by decide) rfl (fun ls hl => ?_)
    refine lv_aload_n hx hb dL_law_1683 rfl (lv_at hl 3 rfl) ?_
    refine lv_aload_n hx hb dL_law_1684 rfl (lv_at hl 5 rfl) ?_
    refine lv_iload hx hb dL_law_1685 (lv_at hl 1 rfl) ?_
    refine lv_iconst (v := 1) hx hb dL_law_1687 (by decide) ?_
    refine lv_iadd hx hb dL_law_1688 ?_
    refine va_sld hx hb hX hbl0 hbA hS (by unfold vp_in; decide) dL_law_1689 ?_
    rw [← es1]
    refine lv_aload_n hx hb dL_law_1690 rfl (lv_at hl 5 rfl) ?_
    refine lv_iload hx hb dL_law_1691 (lv_at hl 1 rfl) ?_
    refine lv_iconst (v := 2) hx hb dL_law_1693 (by decide) ?_
    refine lv_iadd hx hb dL_law_1694 ?_
    refine va_sld hx hb hX hbl0 hbA hS (by unfold vp_in; decide) dL_law_1695 ?_
    rw [← es2]
    refine lv_aload_n hx hb dL_law_1696 rfl (lv_at hl 5 rfl) ?_
    refine lv_iload hx hb dL_law_1697 (lv_at hl 1 rfl) ?_
    refine lv_iconst (v := 3) hx hb dL_law_1699 (by decide) ?_
    refine lv_iadd hx hb dL_law_1700 ?_
    refine va_sld hx hb hX hbl0 hbA hS (by unfold vp_in; decide) dL_law_1701 ?_
    rw [← es3]
    refine q_callV (rest := []) C (c_X8_join_0 l D cy N0 (h) y ms_ mb mw od pt fi re rc rs so ot cn la ro gr 0 0 0 0 0 (nI 1) (nI 1) 0 f2 g2 s1 s2 s3 hY hms hmb hR hRB) kX8_join g1417 g1418 rfl g1419 g4 hP hS hY (by first | decide | omega) hl.1 rfl (by decide) (by first | decide | omega) dL_law_1702 (fun q ce E h' H1 locs1 hE => hE.elim) (fun v hh2 H locs hq hP hS => ?_)
    obtain ⟨cd', rfl, rfl, hq⟩ := hq
    rcases hq with ⟨gB, rfl⟩ | ⟨gB, rfl⟩
    · replace hT := (qs_ne (h := h) (a := y) (o := (.inr (8, [.ref ms_, .ref mb, .ref mw, .int gr, .int 1, .int 0, .int 0, .ref od, .ref pt, .int 0, .int 0, .ref fi, .ref re, .int (nI 1), .ref rc, .ref rs, .ref so, .ref ot, .ref cn, .ref la, .int (nI 1), .ref ro, .int 0]))) (fun q => by subst q; have := hT.symm.trans hY; first | cases this | simp at this)).trans hT
      replace hsl := (qs_ne (h := h) (a := y) (o := (.inr (8, [.ref ms_, .ref mb, .ref mw, .int gr, .int 1, .int 0, .int 0, .ref od, .ref pt, .int 0, .int 0, .ref fi, .ref re, .int (nI 1), .ref rc, .ref rs, .ref so, .ref ot, .ref cn, .ref la, .int (nI 1), .ref ro, .int 0]))) (fun q => by subst q; have := hsl.symm.trans hY; first | cases this | simp at this)).trans hsl
      replace ho := (qs_ne (h := h) (a := y) (o := (.inr (8, [.ref ms_, .ref mb, .ref mw, .int gr, .int 1, .int 0, .int 0, .ref od, .ref pt, .int 0, .int 0, .ref fi, .ref re, .int (nI 1), .ref rc, .ref rs, .ref so, .ref ot, .ref cn, .ref la, .int (nI 1), .ref ro, .int 0]))) (fun q => by subst q; have := ho.symm.trans hY; first | cases this | simp at this)).trans ho
      replace hY : (qs h y (.inr (8, [.ref ms_, .ref mb, .ref mw, .int gr, .int 1, .int 0, .int 0, .ref od, .ref pt, .int 0, .int 0, .ref fi, .ref re, .int (nI 1), .ref rc, .ref rs, .ref so, .ref ot, .ref cn, .ref la, .int (nI 1), .ref ro, .int 0]))) y = some (.inr (8, [.ref ms_, .ref mb, .ref mw, .int gr, .int 1, .int 0, .int 0, .ref od, .ref pt, .int 0, .int 0, .ref fi, .ref re, .int (nI 1), .ref rc, .ref rs, .ref so, .ref ot, .ref cn, .ref la, .int (nI 1), .ref ro, .int 0])) := qs_self
      refine lv_istore (lv' := [(6, .int 0), (5, .int 1), (4, .int 1), (3, .ref o), (2, .ref y), (1, .ref x), (0, .ref b)]) hx hb dL_law_1705 hl (by decide) rfl (fun ls hl => ?_)
      refine lv_aload_n hx hb dL_law_1707 rfl (lv_at hl 4 rfl) ?_
      refine q_callV (rest := []) C (c_X8_thrown l D cy N0 (qs h y (.inr (8, [.ref ms_, .ref mb, .ref mw, .int gr, .int 1, .int 0, .int 0, .ref od, .ref pt, .int 0, .int 0, .ref fi, .ref re, .int (nI 1), .ref rc, .ref rs, .ref so, .ref ot, .ref cn, .ref la, .int (nI 1), .ref ro, .int 0]))) y ms_ mb mw od pt fi re rc rs so ot cn la ro gr 1 0 0 0 0 (nI 1) (nI 1) 0 hY) kX8_thrown g1238 g1239 rfl g1240 g4 hP hS hY (by first | decide | omega) hl.1 rfl (by decide) (by first | decide | omega) dL_law_1708 (fun q ce E h' H1 locs1 hE => hE.elim) (fun v hh3 H locs hq hP hS => ?_)
      obtain ⟨rfl, rfl⟩ := hq
      refine lv_iload hx hb dL_law_1711 (lv_at hl 1 rfl) ?_
      refine lv_icmp_eq (tgt := 1718) hx hb dL_law_1713 (by decide) (fun _ => ?_) (fun c9 => absurd rfl c9)
      refine lv_iload hx hb dL_law_1718 (lv_at hl 1 rfl) ?_
      refine lv_if_ne (tgt := 1735) hx hb dL_law_1720 (by decide) (fun _ => ?_) (fun c => absurd c (by decide))
      refine lv_goto (tgt := 2940) hx hb dL_law_1735 (by decide) ?_
      exact kend ls H locs _ _ (by omega) (by omega) hS (lv_sub hl [2, 6] rfl)
    · exact absurd gB gA
  · refine lv_istore (lv' := [(5, .int 2), (4, .int 1), (3, .ref o), (2, .ref y), (1, .ref x), (0, .ref b)]) hx hb dL_law_1681 hl (by decide) rfl (fun ls hl => ?_)
    refine lv_aload_n hx hb dL_law_1683 rfl (lv_at hl 3 rfl) ?_
    refine lv_aload_n hx hb dL_law_1684 rfl (lv_at hl 5 rfl) ?_
    refine lv_iload hx hb dL_law_1685 (lv_at hl 1 rfl) ?_
    refine lv_iconst (v := 1) hx hb dL_law_1687 (by decide) ?_
    refine lv_iadd hx hb dL_law_1688 ?_
    refine va_sld hx hb hX hbl0 hbA hS (by unfold vp_in; decide) dL_law_1689 ?_
    rw [← es1]
    refine lv_aload_n hx hb dL_law_1690 rfl (lv_at hl 5 rfl) ?_
    refine lv_iload hx hb dL_law_1691 (lv_at hl 1 rfl) ?_
    refine lv_iconst (v := 2) hx hb dL_law_1693 (by decide) ?_
    refine lv_iadd hx hb dL_law_1694 ?_
    refine va_sld hx hb hX hbl0 hbA hS (by unfold vp_in; decide) dL_law_1695 ?_
    rw [← es2]
    refine lv_aload_n hx hb dL_law_1696 rfl (lv_at hl 5 rfl) ?_
    refine lv_iload hx hb dL_law_1697 (lv_at hl 1 rfl) ?_
    refine lv_iconst (v := 3) hx hb dL_law_1699 (by decide) ?_
    refine lv_iadd hx hb dL_law_1700 ?_
    refine va_sld hx hb hX hbl0 hbA hS (by unfold vp_in; decide) dL_law_1701 ?_
    rw [← es3]
    refine q_callV (rest := []) C (c_X8_join_0 l D cy N0 (h) y ms_ mb mw od pt fi re rc rs so ot cn la ro gr 0 0 0 0 0 (nI 1) (nI 1) 0 f2 g2 s1 s2 s3 hY hms hmb hR hRB) kX8_join g1417 g1418 rfl g1419 g4 hP hS hY (by first | decide | omega) hl.1 rfl (by decide) (by first | decide | omega) dL_law_1702 (fun q ce E h' H1 locs1 hE => hE.elim) (fun v hh4 H locs hq hP hS => ?_)
    obtain ⟨cd', rfl, rfl, hq⟩ := hq
    rcases hq with ⟨gB, rfl⟩ | ⟨gB, rfl⟩
    · exact absurd gA gB
    · replace hT := (qs_ne (h := h) (a := y) (o := (.inr (8, [.ref ms_, .ref mb, .ref mw, .int gr, .int 2, .int 0, .int 0, .ref od, .ref pt, .int 0, .int 0, .ref fi, .ref re, .int (nI 1), .ref rc, .ref rs, .ref so, .ref ot, .ref cn, .ref la, .int (nI 1), .ref ro, .int 0]))) (fun q => by subst q; have := hT.symm.trans hY; first | cases this | simp at this)).trans hT
      replace hsl := (qs_ne (h := h) (a := y) (o := (.inr (8, [.ref ms_, .ref mb, .ref mw, .int gr, .int 2, .int 0, .int 0, .ref od, .ref pt, .int 0, .int 0, .ref fi, .ref re, .int (nI 1), .ref rc, .ref rs, .ref so, .ref ot, .ref cn, .ref la, .int (nI 1), .ref ro, .int 0]))) (fun q => by subst q; have := hsl.symm.trans hY; first | cases this | simp at this)).trans hsl
      replace ho := (qs_ne (h := h) (a := y) (o := (.inr (8, [.ref ms_, .ref mb, .ref mw, .int gr, .int 2, .int 0, .int 0, .ref od, .ref pt, .int 0, .int 0, .ref fi, .ref re, .int (nI 1), .ref rc, .ref rs, .ref so, .ref ot, .ref cn, .ref la, .int (nI 1), .ref ro, .int 0]))) (fun q => by subst q; have := ho.symm.trans hY; first | cases this | simp at this)).trans ho
      replace hY : (qs h y (.inr (8, [.ref ms_, .ref mb, .ref mw, .int gr, .int 2, .int 0, .int 0, .ref od, .ref pt, .int 0, .int 0, .ref fi, .ref re, .int (nI 1), .ref rc, .ref rs, .ref so, .ref ot, .ref cn, .ref la, .int (nI 1), .ref ro, .int 0]))) y = some (.inr (8, [.ref ms_, .ref mb, .ref mw, .int gr, .int 2, .int 0, .int 0, .ref od, .ref pt, .int 0, .int 0, .ref fi, .ref re, .int (nI 1), .ref rc, .ref rs, .ref so, .ref ot, .ref cn, .ref la, .int (nI 1), .ref ro, .int 0])) := qs_self
      refine lv_istore (lv' := [(6, .int 0), (5, .int 2), (4, .int 1), (3, .ref o), (2, .ref y), (1, .ref x), (0, .ref b)]) hx hb dL_law_1705 hl (by decide) rfl (fun ls hl => ?_)
      refine lv_aload_n hx hb dL_law_1707 rfl (lv_at hl 4 rfl) ?_
      refine q_callV (rest := []) C (c_X8_thrown l D cy N0 (qs h y (.inr (8, [.ref ms_, .ref mb, .ref mw, .int gr, .int 2, .int 0, .int 0, .ref od, .ref pt, .int 0, .int 0, .ref fi, .ref re, .int (nI 1), .ref rc, .ref rs, .ref so, .ref ot, .ref cn, .ref la, .int (nI 1), .ref ro, .int 0]))) y ms_ mb mw od pt fi re rc rs so ot cn la ro gr 2 0 0 0 0 (nI 1) (nI 1) 0 hY) kX8_thrown g1238 g1239 rfl g1240 g4 hP hS hY (by first | decide | omega) hl.1 rfl (by decide) (by first | decide | omega) dL_law_1708 (fun q ce E h' H1 locs1 hE => hE.elim) (fun v hh5 H locs hq hP hS => ?_)
      obtain ⟨rfl, rfl⟩ := hq
      refine lv_iload hx hb dL_law_1711 (lv_at hl 1 rfl) ?_
      refine lv_icmp_eq (tgt := 1718) hx hb dL_law_1713 (by decide) (fun _ => ?_) (fun c9 => absurd rfl c9)
      refine lv_iload hx hb dL_law_1718 (lv_at hl 1 rfl) ?_
      refine lv_if_ne (tgt := 1735) hx hb dL_law_1720 (by decide) (fun _ => ?_) (fun c => absurd c (by decide))
      refine lv_goto (tgt := 2940) hx hb dL_law_1735 (by decide) ?_
      exact kend ls H locs _ _ (by omega) (by omega) hS (lv_sub hl [2, 6] rfl)

theorem dL_law_1738 : decode cL_law 1738 = .ok (.aload_n 1, 1) := by decide +kernel
theorem dL_law_1739 : decode cL_law 1739 = .ok (.aload_n 0, 1) := by decide +kernel
theorem dL_law_1740 : decode cL_law 1740 = .ok (.iload 4, 2) := by decide +kernel
theorem dL_law_1742 : decode cL_law 1742 = .ok (.iconst 1, 1) := by decide +kernel
theorem dL_law_1743 : decode cL_law 1743 = .ok (.iadd, 1) := by decide +kernel
theorem dL_law_1744 : decode cL_law 1744 = .ok (.iaload, 1) := by decide +kernel
theorem dL_law_1745 : decode cL_law 1745 = .ok (.aload_n 0, 1) := by decide +kernel
theorem dL_law_1746 : decode cL_law 1746 = .ok (.iload 4, 2) := by decide +kernel
theorem dL_law_1748 : decode cL_law 1748 = .ok (.iconst 2, 1) := by decide +kernel
theorem dL_law_1749 : decode cL_law 1749 = .ok (.iadd, 1) := by decide +kernel
theorem dL_law_1750 : decode cL_law 1750 = .ok (.iaload, 1) := by decide +kernel
theorem dL_law_1751 : decode cL_law 1751 = .ok (.aload_n 0, 1) := by decide +kernel
theorem dL_law_1752 : decode cL_law 1752 = .ok (.iload 4, 2) := by decide +kernel
theorem dL_law_1754 : decode cL_law 1754 = .ok (.iconst 3, 1) := by decide +kernel
theorem dL_law_1755 : decode cL_law 1755 = .ok (.iadd, 1) := by decide +kernel
theorem dL_law_1756 : decode cL_law 1756 = .ok (.iaload, 1) := by decide +kernel
theorem dL_law_1757 : decode cL_law 1757 = .ok (.aload_n 0, 1) := by decide +kernel
theorem dL_law_1758 : decode cL_law 1758 = .ok (.iload 4, 2) := by decide +kernel
theorem dL_law_1760 : decode cL_law 1760 = .ok (.iconst 4, 1) := by decide +kernel
theorem dL_law_1761 : decode cL_law 1761 = .ok (.iadd, 1) := by decide +kernel
theorem dL_law_1762 : decode cL_law 1762 = .ok (.iaload, 1) := by decide +kernel
theorem dL_law_1763 : decode cL_law 1763 = .ok (.ifCond .eq 7, 3) := by decide +kernel
theorem dL_law_1766 : decode cL_law 1766 = .ok (.iconst 1, 1) := by decide +kernel
theorem dL_law_1767 : decode cL_law 1767 = .ok (.goto 4, 3) := by decide +kernel
theorem dL_law_1770 : decode cL_law 1770 = .ok (.iconst 0, 1) := by decide +kernel
theorem dL_law_1771 : decode cL_law 1771 = .ok (.aload_n 3, 1) := by decide +kernel
theorem dL_law_1772 : decode cL_law 1772 = .ok (.invokestatic 211, 3) := by decide +kernel
theorem dL_law_1775 : decode cL_law 1775 = .ok (.istore 5, 2) := by decide +kernel
theorem dL_law_1777 : decode cL_law 1777 = .ok (.aload_n 2, 1) := by decide +kernel
theorem dL_law_1778 : decode cL_law 1778 = .ok (.aload_n 0, 1) := by decide +kernel
theorem dL_law_1779 : decode cL_law 1779 = .ok (.iload 4, 2) := by decide +kernel
theorem dL_law_1781 : decode cL_law 1781 = .ok (.iconst 1, 1) := by decide +kernel
theorem dL_law_1782 : decode cL_law 1782 = .ok (.iadd, 1) := by decide +kernel
theorem dL_law_1783 : decode cL_law 1783 = .ok (.iaload, 1) := by decide +kernel
theorem dL_law_1784 : decode cL_law 1784 = .ok (.aload_n 0, 1) := by decide +kernel
theorem dL_law_1785 : decode cL_law 1785 = .ok (.iload 4, 2) := by decide +kernel
theorem dL_law_1787 : decode cL_law 1787 = .ok (.iconst 2, 1) := by decide +kernel
theorem dL_law_1788 : decode cL_law 1788 = .ok (.iadd, 1) := by decide +kernel
theorem dL_law_1789 : decode cL_law 1789 = .ok (.iaload, 1) := by decide +kernel
theorem dL_law_1790 : decode cL_law 1790 = .ok (.aload_n 0, 1) := by decide +kernel
theorem dL_law_1791 : decode cL_law 1791 = .ok (.iload 4, 2) := by decide +kernel
theorem dL_law_1793 : decode cL_law 1793 = .ok (.iconst 3, 1) := by decide +kernel
theorem dL_law_1794 : decode cL_law 1794 = .ok (.iadd, 1) := by decide +kernel
theorem dL_law_1795 : decode cL_law 1795 = .ok (.iaload, 1) := by decide +kernel
theorem dL_law_1796 : decode cL_law 1796 = .ok (.aload_n 0, 1) := by decide +kernel
theorem dL_law_1797 : decode cL_law 1797 = .ok (.iload 4, 2) := by decide +kernel
theorem dL_law_1799 : decode cL_law 1799 = .ok (.iconst 4, 1) := by decide +kernel
theorem dL_law_1800 : decode cL_law 1800 = .ok (.iadd, 1) := by decide +kernel
theorem dL_law_1801 : decode cL_law 1801 = .ok (.iaload, 1) := by decide +kernel
theorem dL_law_1802 : decode cL_law 1802 = .ok (.ifCond .eq 7, 3) := by decide +kernel
theorem dL_law_1805 : decode cL_law 1805 = .ok (.iconst 1, 1) := by decide +kernel
theorem dL_law_1806 : decode cL_law 1806 = .ok (.goto 4, 3) := by decide +kernel
theorem dL_law_1809 : decode cL_law 1809 = .ok (.iconst 0, 1) := by decide +kernel
theorem dL_law_1810 : decode cL_law 1810 = .ok (.invokevirtual 213, 3) := by decide +kernel
theorem dL_law_1813 : decode cL_law 1813 = .ok (.istore 6, 2) := by decide +kernel
theorem dL_law_1815 : decode cL_law 1815 = .ok (.aload_n 2, 1) := by decide +kernel
theorem dL_law_1816 : decode cL_law 1816 = .ok (.invokevirtual 147, 3) := by decide +kernel
theorem dL_law_1819 : decode cL_law 1819 = .ok (.iload 5, 2) := by decide +kernel
theorem dL_law_1821 : decode cL_law 1821 = .ok (.if_icmp .eq 5, 3) := by decide +kernel
theorem dL_law_1826 : decode cL_law 1826 = .ok (.iload 5, 2) := by decide +kernel
theorem dL_law_1828 : decode cL_law 1828 = .ok (.ifCond .ne 15, 3) := by decide +kernel
theorem dL_law_1843 : decode cL_law 1843 = .ok (.goto 1097, 3) := by decide +kernel
set_option maxRecDepth 100000 in
set_option maxHeartbeats 4000000 in
theorem lc_meet {p : Program} {l : Launch} {e : Env} {mc ms : Nat} {s : State} {m : MethodId} {below : List Frame} {meth : Method} {c : Code} {H : Heap} {locs : List Loc} {cells slots : Nat} {Q : State → Prop} {rt0 : Option FieldType} {nm0 : String} {D : va_G} {cy : Nat → ClassId} {N0 : Nat} {tb : List ExceptionTableEntry} {h : qH} {ls : Array Slot} {b : Nat} {xs : Nat → Int32} {x sl bl kr vr : Nat} {hm ed : Int32} {f g : Nat → Option Nat} {y ms_ mb mw od pt fi re rc rs so ot cn la ro : Nat} {gr : Int32} {f2 g2 : Nat → Option Nat} {o : Nat} {fo : Nat → Int64} (C : qX p l s m #[Value.ref b] meth c RL cL_law 8 rt0 nm0 D cy N0 tb) (hX : va_X b 8 xs s s.heap) (hbl0 : b < s.heap.size) (hbA : ¬ qA N0 b) (hP : qP D N0 h H) (hS : va_S (qA N0) s.heap H locs) (hcm : cells + 20 ≤ mc) (hsm : slots + 200 ≤ ms) (hT : h x = some (.inr (6, [.int hm, .ref sl, .ref bl, .ref kr, .ref vr, .int 0, .int 0, .int ed]))) (hsl : h sl = some (.inl (cy 3, 24, .inr (.inr (.inr (.inr f)))))) (hF : ∀ i, i < 24 → f i = none) (hbl : h bl = some (.inl (cy 2, 4, .inr (.inr (.inr (.inr g)))))) (hB : ∀ j, j < 4 → ∃ (b rw : Nat) (kd ln e2 : Int32) (rt : Option Nat), qBd h g j b rw 0 kd ln e2 rt) (hY : h y = some (.inr (8, [.ref ms_, .ref mb, .ref mw, .int gr, .int 0, .int 0, .int 0, .ref od, .ref pt, .int 0, .int 0, .ref fi, .ref re, .int (nI 1), .ref rc, .ref rs, .ref so, .ref ot, .ref cn, .ref la, .int (nI 1), .ref ro, .int 0]))) (hms : h ms_ = some (.inl (cy 5, 24, .inr (.inr (.inr (.inr f2)))))) (hmb : h mb = some (.inl (cy 5, 4, .inr (.inr (.inr (.inr g2)))))) (hR : qRo h f2 24) (hRB : qRo h g2 4) (ho : h o = some (.inl (cy 1, 1, .inr (.inl fo)))) (hfi : h fi = some (.inl (cy 1, 1024, .inr (.inl (fun _ => 0))))) (hre : h re = some (.inl (cy 0, 1024, .inl (fun _ => 0)))) (hrc : h rc = some (.inl (cy 0, 1024, .inl (fun _ => 0)))) (hso : h so = some (.inl (cy 0, 1024, .inl (fun _ => 0)))) (hot : h ot = some (.inl (cy 0, 1024, .inl (fun _ => 0)))) (hcn : h cn = some (.inl (cy 1, 1024, .inr (.inl (fun _ => 0))))) (hla : h la = some (.inl (cy 1, 1024, .inr (.inl (fun _ => 0))))) (n_so_rc : rc ≠ so) (n_ot_rc : rc ≠ ot) (n_rc_re : re ≠ rc) (n_ot_so : so ≠ ot) (n_so_re : re ≠ so) (n_ot_re : re ≠ ot) (n_la_cn : cn ≠ la) (n_cn_fi : fi ≠ cn) (n_la_fi : fi ≠ la) (n_ms_sl : ms_ ≠ sl) (n_mb_sl : mb ≠ sl) (hl : lv_has ls 8 [(4, .int 1), (3, .ref o), (2, .ref y), (1, .ref x), (0, .ref b)]) (kend : ∀ (ls : Array Slot) (H : Heap) (locs : List Loc) (ce sl : Nat), ce ≤ cells + 20 → sl ≤ slots + 200 → va_S (qA N0) s.heap H locs → lv_has ls 8 [(4, .int 1), (0, .ref b)] → W p l e (qR 2048 84000 mc ms) s m #[Value.ref b] below meth c H locs ce sl Q (F0 m 2940 ls [])) : W p l e (qR 2048 84000 mc ms) s m #[Value.ref b] below meth c H locs cells slots Q (F0 m 1738 ls []) := by
  have hx := C.1
  have hb := C.2.1
  refine lv_aload_n hx hb dL_law_1738 rfl (lv_at hl 3 rfl) ?_
  refine lv_aload_n hx hb dL_law_1739 rfl (lv_at hl 4 rfl) ?_
  refine lv_iload hx hb dL_law_1740 (lv_at hl 0 rfl) ?_
  refine lv_iconst (v := 1) hx hb dL_law_1742 (by decide) ?_
  refine lv_iadd hx hb dL_law_1743 ?_
  refine va_sld hx hb hX hbl0 hbA hS (by unfold vp_in; decide) dL_law_1744 ?_
  refine lv_topi (fun s1 es1 => ?_)
  refine lv_aload_n hx hb dL_law_1745 rfl (lv_at hl 4 rfl) ?_
  refine lv_iload hx hb dL_law_1746 (lv_at hl 0 rfl) ?_
  refine lv_iconst (v := 2) hx hb dL_law_1748 (by decide) ?_
  refine lv_iadd hx hb dL_law_1749 ?_
  refine va_sld hx hb hX hbl0 hbA hS (by unfold vp_in; decide) dL_law_1750 ?_
  refine lv_topi (fun s2 es2 => ?_)
  refine lv_aload_n hx hb dL_law_1751 rfl (lv_at hl 4 rfl) ?_
  refine lv_iload hx hb dL_law_1752 (lv_at hl 0 rfl) ?_
  refine lv_iconst (v := 3) hx hb dL_law_1754 (by decide) ?_
  refine lv_iadd hx hb dL_law_1755 ?_
  refine va_sld hx hb hX hbl0 hbA hS (by unfold vp_in; decide) dL_law_1756 ?_
  refine lv_topi (fun s3 es3 => ?_)
  refine lv_aload_n hx hb dL_law_1757 rfl (lv_at hl 4 rfl) ?_
  refine lv_iload hx hb dL_law_1758 (lv_at hl 0 rfl) ?_
  refine lv_iconst (v := 4) hx hb dL_law_1760 (by decide) ?_
  refine lv_iadd hx hb dL_law_1761 ?_
  refine va_sld hx hb hX hbl0 hbA hS (by unfold vp_in; decide) dL_law_1762 ?_
  refine lv_topi (fun s4 es4 => ?_)
  refine lv_if_eq (tgt := 1770) hx hb dL_law_1763 (by decide) (fun c1763 => ?_) (fun c1763 => ?_)
  · refine lv_iconst (v := 0) hx hb dL_law_1770 (by decide) ?_
    refine lv_aload_n hx hb dL_law_1771 rfl (lv_at hl 1 rfl) ?_
    refine q_callSW (rest := []) C (c_L_meet_0 l D cy N0 (h) x sl bl kr vr hm 0 0 ed f s1 s2 s3 0 o hT hsl hF) kwL_meet g878 g879 hP hS (by omega) hl.1 rfl (by decide) (by omega) dL_law_1772 (fun v hh1 H locs hq hP hS => ?_)
    obtain ⟨rfl, hq⟩ := hq
    rcases hq with ⟨rfl, gA⟩ | ⟨rfl, gA⟩
    · refine lv_istore (lv' := [(5, .int 1), (4, .int 1), (3, .ref o), (2, .ref y), (1, .ref x), (0, .ref b)]) hx hb dL_law_1775 hl (by decide) rfl (fun ls hl => ?_)
      refine lv_aload_n hx hb dL_law_1777 rfl (lv_at hl 3 rfl) ?_
      refine lv_aload_n hx hb dL_law_1778 rfl (lv_at hl 5 rfl) ?_
      refine lv_iload hx hb dL_law_1779 (lv_at hl 1 rfl) ?_
      refine lv_iconst (v := 1) hx hb dL_law_1781 (by decide) ?_
      refine lv_iadd hx hb dL_law_1782 ?_
      refine va_sld hx hb hX hbl0 hbA hS (by unfold vp_in; decide) dL_law_1783 ?_
      rw [← es1]
      refine lv_aload_n hx hb dL_law_1784 rfl (lv_at hl 5 rfl) ?_
      refine lv_iload hx hb dL_law_1785 (lv_at hl 1 rfl) ?_
      refine lv_iconst (v := 2) hx hb dL_law_1787 (by decide) ?_
      refine lv_iadd hx hb dL_law_1788 ?_
      refine va_sld hx hb hX hbl0 hbA hS (by unfold vp_in; decide) dL_law_1789 ?_
      rw [← es2]
      refine lv_aload_n hx hb dL_law_1790 rfl (lv_at hl 5 rfl) ?_
      refine lv_iload hx hb dL_law_1791 (lv_at hl 1 rfl) ?_
      refine lv_iconst (v := 3) hx hb dL_law_1793 (by decide) ?_
      refine lv_iadd hx hb dL_law_1794 ?_
      refine va_sld hx hb hX hbl0 hbA hS (by unfold vp_in; decide) dL_law_1795 ?_
      rw [← es3]
      refine lv_aload_n hx hb dL_law_1796 rfl (lv_at hl 5 rfl) ?_
      refine lv_iload hx hb dL_law_1797 (lv_at hl 1 rfl) ?_
      refine lv_iconst (v := 4) hx hb dL_law_1799 (by decide) ?_
      refine lv_iadd hx hb dL_law_1800 ?_
      refine va_sld hx hb hX hbl0 hbA hS (by unfold vp_in; decide) dL_law_1801 ?_
      rw [← es4]
      refine lv_if_eq (tgt := 1809) hx hb dL_law_1802 (by decide) (fun c1802 => ?_) (fun c1802 => ?_)
      · refine lv_iconst (v := 0) hx hb dL_law_1809 (by decide) ?_
        refine q_callV (rest := []) C (c_X8_meet_0 l D cy N0 (h) y ms_ mb mw od pt fi re rc rs so ot cn la ro gr 0 0 0 0 0 (nI 1) (nI 1) 0 f2 g2 s1 s2 s3 0 hY hms hmb hR hRB) kX8_meet g1421 g1422 rfl g1423 g4 hP hS hY (by first | decide | omega) hl.1 rfl (by decide) (by first | decide | omega) dL_law_1810 (fun q ce E h' H1 locs1 hE => hE.elim) (fun v hh2 H locs hq hP hS => ?_)
        obtain ⟨cd', rfl, rfl, hq⟩ := hq
        rcases hq with ⟨gB, rfl⟩ | ⟨gB, rfl⟩
        · replace hT := (qs_ne (h := h) (a := y) (o := (.inr (8, [.ref ms_, .ref mb, .ref mw, .int gr, .int 1, .int 0, .int 0, .ref od, .ref pt, .int 0, .int 0, .ref fi, .ref re, .int (nI 1), .ref rc, .ref rs, .ref so, .ref ot, .ref cn, .ref la, .int (nI 1), .ref ro, .int 0]))) (fun q => by subst q; have := hT.symm.trans hY; first | cases this | simp at this)).trans hT
          replace hsl := (qs_ne (h := h) (a := y) (o := (.inr (8, [.ref ms_, .ref mb, .ref mw, .int gr, .int 1, .int 0, .int 0, .ref od, .ref pt, .int 0, .int 0, .ref fi, .ref re, .int (nI 1), .ref rc, .ref rs, .ref so, .ref ot, .ref cn, .ref la, .int (nI 1), .ref ro, .int 0]))) (fun q => by subst q; have := hsl.symm.trans hY; first | cases this | simp at this)).trans hsl
          replace ho := (qs_ne (h := h) (a := y) (o := (.inr (8, [.ref ms_, .ref mb, .ref mw, .int gr, .int 1, .int 0, .int 0, .ref od, .ref pt, .int 0, .int 0, .ref fi, .ref re, .int (nI 1), .ref rc, .ref rs, .ref so, .ref ot, .ref cn, .ref la, .int (nI 1), .ref ro, .int 0]))) (fun q => by subst q; have := ho.symm.trans hY; first | cases this | simp at this)).trans ho
          replace hY : (qs h y (.inr (8, [.ref ms_, .ref mb, .ref mw, .int gr, .int 1, .int 0, .int 0, .ref od, .ref pt, .int 0, .int 0, .ref fi, .ref re, .int (nI 1), .ref rc, .ref rs, .ref so, .ref ot, .ref cn, .ref la, .int (nI 1), .ref ro, .int 0]))) y = some (.inr (8, [.ref ms_, .ref mb, .ref mw, .int gr, .int 1, .int 0, .int 0, .ref od, .ref pt, .int 0, .int 0, .ref fi, .ref re, .int (nI 1), .ref rc, .ref rs, .ref so, .ref ot, .ref cn, .ref la, .int (nI 1), .ref ro, .int 0])) := qs_self
          refine lv_istore (lv' := [(6, .int 0), (5, .int 1), (4, .int 1), (3, .ref o), (2, .ref y), (1, .ref x), (0, .ref b)]) hx hb dL_law_1813 hl (by decide) rfl (fun ls hl => ?_)
          refine lv_aload_n hx hb dL_law_1815 rfl (lv_at hl 4 rfl) ?_
          refine q_callV (rest := []) C (c_X8_thrown l D cy N0 (qs h y (.inr (8, [.ref ms_, .ref mb, .ref mw, .int gr, .int 1, .int 0, .int 0, .ref od, .ref pt, .int 0, .int 0, .ref fi, .ref re, .int (nI 1), .ref rc, .ref rs, .ref so, .ref ot, .ref cn, .ref la, .int (nI 1), .ref ro, .int 0]))) y ms_ mb mw od pt fi re rc rs so ot cn la ro gr 1 0 0 0 0 (nI 1) (nI 1) 0 hY) kX8_thrown g1238 g1239 rfl g1240 g4 hP hS hY (by first | decide | omega) hl.1 rfl (by decide) (by first | decide | omega) dL_law_1816 (fun q ce E h' H1 locs1 hE => hE.elim) (fun v hh3 H locs hq hP hS => ?_)
          obtain ⟨rfl, rfl⟩ := hq
          refine lv_iload hx hb dL_law_1819 (lv_at hl 1 rfl) ?_
          refine lv_icmp_eq (tgt := 1826) hx hb dL_law_1821 (by decide) (fun _ => ?_) (fun c9 => absurd rfl c9)
          refine lv_iload hx hb dL_law_1826 (lv_at hl 1 rfl) ?_
          refine lv_if_ne (tgt := 1843) hx hb dL_law_1828 (by decide) (fun _ => ?_) (fun c => absurd c (by decide))
          refine lv_goto (tgt := 2940) hx hb dL_law_1843 (by decide) ?_
          exact kend ls H locs _ _ (by omega) (by omega) hS (lv_sub hl [2, 6] rfl)
        · exact absurd gB gA
      · refine lv_iconst (v := 1) hx hb dL_law_1805 (by decide) ?_
        refine lv_goto (tgt := 1810) hx hb dL_law_1806 (by decide) ?_
        refine q_callV (rest := []) C (c_X8_meet_0 l D cy N0 (h) y ms_ mb mw od pt fi re rc rs so ot cn la ro gr 0 0 0 0 0 (nI 1) (nI 1) 0 f2 g2 s1 s2 s3 1 hY hms hmb hR hRB) kX8_meet g1421 g1422 rfl g1423 g4 hP hS hY (by first | decide | omega) hl.1 rfl (by decide) (by first | decide | omega) dL_law_1810 (fun q ce E h' H1 locs1 hE => hE.elim) (fun v hh4 H locs hq hP hS => ?_)
        obtain ⟨cd', rfl, rfl, hq⟩ := hq
        rcases hq with ⟨gB, rfl⟩ | ⟨gB, rfl⟩
        · replace hT := (qs_ne (h := h) (a := y) (o := (.inr (8, [.ref ms_, .ref mb, .ref mw, .int gr, .int 1, .int 0, .int 0, .ref od, .ref pt, .int 0, .int 0, .ref fi, .ref re, .int (nI 1), .ref rc, .ref rs, .ref so, .ref ot, .ref cn, .ref la, .int (nI 1), .ref ro, .int 0]))) (fun q => by subst q; have := hT.symm.trans hY; first | cases this | simp at this)).trans hT
          replace hsl := (qs_ne (h := h) (a := y) (o := (.inr (8, [.ref ms_, .ref mb, .ref mw, .int gr, .int 1, .int 0, .int 0, .ref od, .ref pt, .int 0, .int 0, .ref fi, .ref re, .int (nI 1), .ref rc, .ref rs, .ref so, .ref ot, .ref cn, .ref la, .int (nI 1), .ref ro, .int 0]))) (fun q => by subst q; have := hsl.symm.trans hY; first | cases this | simp at this)).trans hsl
          replace ho := (qs_ne (h := h) (a := y) (o := (.inr (8, [.ref ms_, .ref mb, .ref mw, .int gr, .int 1, .int 0, .int 0, .ref od, .ref pt, .int 0, .int 0, .ref fi, .ref re, .int (nI 1), .ref rc, .ref rs, .ref so, .ref ot, .ref cn, .ref la, .int (nI 1), .ref ro, .int 0]))) (fun q => by subst q; have := ho.symm.trans hY; first | cases this | simp at this)).trans ho
          replace hY : (qs h y (.inr (8, [.ref ms_, .ref mb, .ref mw, .int gr, .int 1, .int 0, .int 0, .ref od, .ref pt, .int 0, .int 0, .ref fi, .ref re, .int (nI 1), .ref rc, .ref rs, .ref so, .ref ot, .ref cn, .ref la, .int (nI 1), .ref ro, .int 0]))) y = some (.inr (8, [.ref ms_, .ref mb, .ref mw, .int gr, .int 1, .int 0, .int 0, .ref od, .ref pt, .int 0, .int 0, .ref fi, .ref re, .int (nI 1), .ref rc, .ref rs, .ref so, .ref ot, .ref cn, .ref la, .int (nI 1), .ref ro, .int 0])) := qs_self
          refine lv_istore (lv' := [(6, .int 0), (5, .int 1), (4, .int 1), (3, .ref o), (2, .ref y), (1, .ref x), (0, .ref b)]) hx hb dL_law_1813 hl (by decide) rfl (fun ls hl => ?_)
          refine lv_aload_n hx hb dL_law_1815 rfl (lv_at hl 4 rfl) ?_
          refine q_callV (rest := []) C (c_X8_thrown l D cy N0 (qs h y (.inr (8, [.ref ms_, .ref mb, .ref mw, .int gr, .int 1, .int 0, .int 0, .ref od, .ref pt, .int 0, .int 0, .ref fi, .ref re, .int (nI 1), .ref rc, .ref rs, .ref so, .ref ot, .ref cn, .ref la, .int (nI 1), .ref ro, .int 0]))) y ms_ mb mw od pt fi re rc rs so ot cn la ro gr 1 0 0 0 0 (nI 1) (nI 1) 0 hY) kX8_thrown g1238 g1239 rfl g1240 g4 hP hS hY (by first | decide | omega) hl.1 rfl (by decide) (by first | decide | omega) dL_law_1816 (fun q ce E h' H1 locs1 hE => hE.elim) (fun v hh5 H locs hq hP hS => ?_)
          obtain ⟨rfl, rfl⟩ := hq
          refine lv_iload hx hb dL_law_1819 (lv_at hl 1 rfl) ?_
          refine lv_icmp_eq (tgt := 1826) hx hb dL_law_1821 (by decide) (fun _ => ?_) (fun c9 => absurd rfl c9)
          refine lv_iload hx hb dL_law_1826 (lv_at hl 1 rfl) ?_
          refine lv_if_ne (tgt := 1843) hx hb dL_law_1828 (by decide) (fun _ => ?_) (fun c => absurd c (by decide))
          refine lv_goto (tgt := 2940) hx hb dL_law_1843 (by decide) ?_
          exact kend ls H locs _ _ (by omega) (by omega) hS (lv_sub hl [2, 6] rfl)
        · exact absurd gB gA
    · refine lv_istore (lv' := [(5, .int 2), (4, .int 1), (3, .ref o), (2, .ref y), (1, .ref x), (0, .ref b)]) hx hb dL_law_1775 hl (by decide) rfl (fun ls hl => ?_)
      refine lv_aload_n hx hb dL_law_1777 rfl (lv_at hl 3 rfl) ?_
      refine lv_aload_n hx hb dL_law_1778 rfl (lv_at hl 5 rfl) ?_
      refine lv_iload hx hb dL_law_1779 (lv_at hl 1 rfl) ?_
      refine lv_iconst (v := 1) hx hb dL_law_1781 (by decide) ?_
      refine lv_iadd hx hb dL_law_1782 ?_
      refine va_sld hx hb hX hbl0 hbA hS (by unfold vp_in; decide) dL_law_1783 ?_
      rw [← es1]
      refine lv_aload_n hx hb dL_law_1784 rfl (lv_at hl 5 rfl) ?_
      refine lv_iload hx hb dL_law_1785 (lv_at hl 1 rfl) ?_
      refine lv_iconst (v := 2) hx hb dL_law_1787 (by decide) ?_
      refine lv_iadd hx hb dL_law_1788 ?_
      refine va_sld hx hb hX hbl0 hbA hS (by unfold vp_in; decide) dL_law_1789 ?_
      rw [← es2]
      refine lv_aload_n hx hb dL_law_1790 rfl (lv_at hl 5 rfl) ?_
      refine lv_iload hx hb dL_law_1791 (lv_at hl 1 rfl) ?_
      refine lv_iconst (v := 3) hx hb dL_law_1793 (by decide) ?_
      refine lv_iadd hx hb dL_law_1794 ?_
      refine va_sld hx hb hX hbl0 hbA hS (by unfold vp_in; decide) dL_law_1795 ?_
      rw [← es3]
      refine lv_aload_n hx hb dL_law_1796 rfl (lv_at hl 5 rfl) ?_
      refine lv_iload hx hb dL_law_1797 (lv_at hl 1 rfl) ?_
      refine lv_iconst (v := 4) hx hb dL_law_1799 (by decide) ?_
      refine lv_iadd hx hb dL_law_1800 ?_
      refine va_sld hx hb hX hbl0 hbA hS (by unfold vp_in; decide) dL_law_1801 ?_
      rw [← es4]
      refine lv_if_eq (tgt := 1809) hx hb dL_law_1802 (by decide) (fun c1802 => ?_) (fun c1802 => ?_)
      · refine lv_iconst (v := 0) hx hb dL_law_1809 (by decide) ?_
        refine q_callV (rest := []) C (c_X8_meet_0 l D cy N0 (h) y ms_ mb mw od pt fi re rc rs so ot cn la ro gr 0 0 0 0 0 (nI 1) (nI 1) 0 f2 g2 s1 s2 s3 0 hY hms hmb hR hRB) kX8_meet g1421 g1422 rfl g1423 g4 hP hS hY (by first | decide | omega) hl.1 rfl (by decide) (by first | decide | omega) dL_law_1810 (fun q ce E h' H1 locs1 hE => hE.elim) (fun v hh6 H locs hq hP hS => ?_)
        obtain ⟨cd', rfl, rfl, hq⟩ := hq
        rcases hq with ⟨gB, rfl⟩ | ⟨gB, rfl⟩
        · exact absurd gA gB
        · replace hT := (qs_ne (h := h) (a := y) (o := (.inr (8, [.ref ms_, .ref mb, .ref mw, .int gr, .int 2, .int 0, .int 0, .ref od, .ref pt, .int 0, .int 0, .ref fi, .ref re, .int (nI 1), .ref rc, .ref rs, .ref so, .ref ot, .ref cn, .ref la, .int (nI 1), .ref ro, .int 0]))) (fun q => by subst q; have := hT.symm.trans hY; first | cases this | simp at this)).trans hT
          replace hsl := (qs_ne (h := h) (a := y) (o := (.inr (8, [.ref ms_, .ref mb, .ref mw, .int gr, .int 2, .int 0, .int 0, .ref od, .ref pt, .int 0, .int 0, .ref fi, .ref re, .int (nI 1), .ref rc, .ref rs, .ref so, .ref ot, .ref cn, .ref la, .int (nI 1), .ref ro, .int 0]))) (fun q => by subst q; have := hsl.symm.trans hY; first | cases this | simp at this)).trans hsl
          replace ho := (qs_ne (h := h) (a := y) (o := (.inr (8, [.ref ms_, .ref mb, .ref mw, .int gr, .int 2, .int 0, .int 0, .ref od, .ref pt, .int 0, .int 0, .ref fi, .ref re, .int (nI 1), .ref rc, .ref rs, .ref so, .ref ot, .ref cn, .ref la, .int (nI 1), .ref ro, .int 0]))) (fun q => by subst q; have := ho.symm.trans hY; first | cases this | simp at this)).trans ho
          replace hY : (qs h y (.inr (8, [.ref ms_, .ref mb, .ref mw, .int gr, .int 2, .int 0, .int 0, .ref od, .ref pt, .int 0, .int 0, .ref fi, .ref re, .int (nI 1), .ref rc, .ref rs, .ref so, .ref ot, .ref cn, .ref la, .int (nI 1), .ref ro, .int 0]))) y = some (.inr (8, [.ref ms_, .ref mb, .ref mw, .int gr, .int 2, .int 0, .int 0, .ref od, .ref pt, .int 0, .int 0, .ref fi, .ref re, .int (nI 1), .ref rc, .ref rs, .ref so, .ref ot, .ref cn, .ref la, .int (nI 1), .ref ro, .int 0])) := qs_self
          refine lv_istore (lv' := [(6, .int 0), (5, .int 2), (4, .int 1), (3, .ref o), (2, .ref y), (1, .ref x), (0, .ref b)]) hx hb dL_law_1813 hl (by decide) rfl (fun ls hl => ?_)
          refine lv_aload_n hx hb dL_law_1815 rfl (lv_at hl 4 rfl) ?_
          refine q_callV (rest := []) C (c_X8_thrown l D cy N0 (qs h y (.inr (8, [.ref ms_, .ref mb, .ref mw, .int gr, .int 2, .int 0, .int 0, .ref od, .ref pt, .int 0, .int 0, .ref fi, .ref re, .int (nI 1), .ref rc, .ref rs, .ref so, .ref ot, .ref cn, .ref la, .int (nI 1), .ref ro, .int 0]))) y ms_ mb mw od pt fi re rc rs so ot cn la ro gr 2 0 0 0 0 (nI 1) (nI 1) 0 hY) kX8_thrown g1238 g1239 rfl g1240 g4 hP hS hY (by first | decide | omega) hl.1 rfl (by decide) (by first | decide | omega) dL_law_1816 (fun q ce E h' H1 locs1 hE => hE.elim) (fun v hh7 H locs hq hP hS => ?_)
          obtain ⟨rfl, rfl⟩ := hq
          refine lv_iload hx hb dL_law_1819 (lv_at hl 1 rfl) ?_
          refine lv_icmp_eq (tgt := 1826) hx hb dL_law_1821 (by decide) (fun _ => ?_) (fun c9 => absurd rfl c9)
          refine lv_iload hx hb dL_law_1826 (lv_at hl 1 rfl) ?_
          refine lv_if_ne (tgt := 1843) hx hb dL_law_1828 (by decide) (fun _ => ?_) (fun c => absurd c (by decide))
          refine lv_goto (tgt := 2940) hx hb dL_law_1843 (by decide) ?_
          exact kend ls H locs _ _ (by omega) (by omega) hS (lv_sub hl [2, 6] rfl)
      · refine lv_iconst (v := 1) hx hb dL_law_1805 (by decide) ?_
        refine lv_goto (tgt := 1810) hx hb dL_law_1806 (by decide) ?_
        refine q_callV (rest := []) C (c_X8_meet_0 l D cy N0 (h) y ms_ mb mw od pt fi re rc rs so ot cn la ro gr 0 0 0 0 0 (nI 1) (nI 1) 0 f2 g2 s1 s2 s3 1 hY hms hmb hR hRB) kX8_meet g1421 g1422 rfl g1423 g4 hP hS hY (by first | decide | omega) hl.1 rfl (by decide) (by first | decide | omega) dL_law_1810 (fun q ce E h' H1 locs1 hE => hE.elim) (fun v hh8 H locs hq hP hS => ?_)
        obtain ⟨cd', rfl, rfl, hq⟩ := hq
        rcases hq with ⟨gB, rfl⟩ | ⟨gB, rfl⟩
        · exact absurd gA gB
        · replace hT := (qs_ne (h := h) (a := y) (o := (.inr (8, [.ref ms_, .ref mb, .ref mw, .int gr, .int 2, .int 0, .int 0, .ref od, .ref pt, .int 0, .int 0, .ref fi, .ref re, .int (nI 1), .ref rc, .ref rs, .ref so, .ref ot, .ref cn, .ref la, .int (nI 1), .ref ro, .int 0]))) (fun q => by subst q; have := hT.symm.trans hY; first | cases this | simp at this)).trans hT
          replace hsl := (qs_ne (h := h) (a := y) (o := (.inr (8, [.ref ms_, .ref mb, .ref mw, .int gr, .int 2, .int 0, .int 0, .ref od, .ref pt, .int 0, .int 0, .ref fi, .ref re, .int (nI 1), .ref rc, .ref rs, .ref so, .ref ot, .ref cn, .ref la, .int (nI 1), .ref ro, .int 0]))) (fun q => by subst q; have := hsl.symm.trans hY; first | cases this | simp at this)).trans hsl
          replace ho := (qs_ne (h := h) (a := y) (o := (.inr (8, [.ref ms_, .ref mb, .ref mw, .int gr, .int 2, .int 0, .int 0, .ref od, .ref pt, .int 0, .int 0, .ref fi, .ref re, .int (nI 1), .ref rc, .ref rs, .ref so, .ref ot, .ref cn, .ref la, .int (nI 1), .ref ro, .int 0]))) (fun q => by subst q; have := ho.symm.trans hY; first | cases this | simp at this)).trans ho
          replace hY : (qs h y (.inr (8, [.ref ms_, .ref mb, .ref mw, .int gr, .int 2, .int 0, .int 0, .ref od, .ref pt, .int 0, .int 0, .ref fi, .ref re, .int (nI 1), .ref rc, .ref rs, .ref so, .ref ot, .ref cn, .ref la, .int (nI 1), .ref ro, .int 0]))) y = some (.inr (8, [.ref ms_, .ref mb, .ref mw, .int gr, .int 2, .int 0, .int 0, .ref od, .ref pt, .int 0, .int 0, .ref fi, .ref re, .int (nI 1), .ref rc, .ref rs, .ref so, .ref ot, .ref cn, .ref la, .int (nI 1), .ref ro, .int 0])) := qs_self
          refine lv_istore (lv' := [(6, .int 0), (5, .int 2), (4, .int 1), (3, .ref o), (2, .ref y), (1, .ref x), (0, .ref b)]) hx hb dL_law_1813 hl (by decide) rfl (fun ls hl => ?_)
          refine lv_aload_n hx hb dL_law_1815 rfl (lv_at hl 4 rfl) ?_
          refine q_callV (rest := []) C (c_X8_thrown l D cy N0 (qs h y (.inr (8, [.ref ms_, .ref mb, .ref mw, .int gr, .int 2, .int 0, .int 0, .ref od, .ref pt, .int 0, .int 0, .ref fi, .ref re, .int (nI 1), .ref rc, .ref rs, .ref so, .ref ot, .ref cn, .ref la, .int (nI 1), .ref ro, .int 0]))) y ms_ mb mw od pt fi re rc rs so ot cn la ro gr 2 0 0 0 0 (nI 1) (nI 1) 0 hY) kX8_thrown g1238 g1239 rfl g1240 g4 hP hS hY (by first | decide | omega) hl.1 rfl (by decide) (by first | decide | omega) dL_law_1816 (fun q ce E h' H1 locs1 hE => hE.elim) (fun v hh9 H locs hq hP hS => ?_)
          obtain ⟨rfl, rfl⟩ := hq
          refine lv_iload hx hb dL_law_1819 (lv_at hl 1 rfl) ?_
          refine lv_icmp_eq (tgt := 1826) hx hb dL_law_1821 (by decide) (fun _ => ?_) (fun c9 => absurd rfl c9)
          refine lv_iload hx hb dL_law_1826 (lv_at hl 1 rfl) ?_
          refine lv_if_ne (tgt := 1843) hx hb dL_law_1828 (by decide) (fun _ => ?_) (fun c => absurd c (by decide))
          refine lv_goto (tgt := 2940) hx hb dL_law_1843 (by decide) ?_
          exact kend ls H locs _ _ (by omega) (by omega) hS (lv_sub hl [2, 6] rfl)
  · refine lv_iconst (v := 1) hx hb dL_law_1766 (by decide) ?_
    refine lv_goto (tgt := 1771) hx hb dL_law_1767 (by decide) ?_
    refine lv_aload_n hx hb dL_law_1771 rfl (lv_at hl 1 rfl) ?_
    refine q_callSW (rest := []) C (c_L_meet_0 l D cy N0 (h) x sl bl kr vr hm 0 0 ed f s1 s2 s3 1 o hT hsl hF) kwL_meet g878 g879 hP hS (by omega) hl.1 rfl (by decide) (by omega) dL_law_1772 (fun v hh10 H locs hq hP hS => ?_)
    obtain ⟨rfl, hq⟩ := hq
    rcases hq with ⟨rfl, gA⟩ | ⟨rfl, gA⟩
    · refine lv_istore (lv' := [(5, .int 1), (4, .int 1), (3, .ref o), (2, .ref y), (1, .ref x), (0, .ref b)]) hx hb dL_law_1775 hl (by decide) rfl (fun ls hl => ?_)
      refine lv_aload_n hx hb dL_law_1777 rfl (lv_at hl 3 rfl) ?_
      refine lv_aload_n hx hb dL_law_1778 rfl (lv_at hl 5 rfl) ?_
      refine lv_iload hx hb dL_law_1779 (lv_at hl 1 rfl) ?_
      refine lv_iconst (v := 1) hx hb dL_law_1781 (by decide) ?_
      refine lv_iadd hx hb dL_law_1782 ?_
      refine va_sld hx hb hX hbl0 hbA hS (by unfold vp_in; decide) dL_law_1783 ?_
      rw [← es1]
      refine lv_aload_n hx hb dL_law_1784 rfl (lv_at hl 5 rfl) ?_
      refine lv_iload hx hb dL_law_1785 (lv_at hl 1 rfl) ?_
      refine lv_iconst (v := 2) hx hb dL_law_1787 (by decide) ?_
      refine lv_iadd hx hb dL_law_1788 ?_
      refine va_sld hx hb hX hbl0 hbA hS (by unfold vp_in; decide) dL_law_1789 ?_
      rw [← es2]
      refine lv_aload_n hx hb dL_law_1790 rfl (lv_at hl 5 rfl) ?_
      refine lv_iload hx hb dL_law_1791 (lv_at hl 1 rfl) ?_
      refine lv_iconst (v := 3) hx hb dL_law_1793 (by decide) ?_
      refine lv_iadd hx hb dL_law_1794 ?_
      refine va_sld hx hb hX hbl0 hbA hS (by unfold vp_in; decide) dL_law_1795 ?_
      rw [← es3]
      refine lv_aload_n hx hb dL_law_1796 rfl (lv_at hl 5 rfl) ?_
      refine lv_iload hx hb dL_law_1797 (lv_at hl 1 rfl) ?_
      refine lv_iconst (v := 4) hx hb dL_law_1799 (by decide) ?_
      refine lv_iadd hx hb dL_law_1800 ?_
      refine va_sld hx hb hX hbl0 hbA hS (by unfold vp_in; decide) dL_law_1801 ?_
      rw [← es4]
      refine lv_if_eq (tgt := 1809) hx hb dL_law_1802 (by decide) (fun c1802 => ?_) (fun c1802 => ?_)
      · refine lv_iconst (v := 0) hx hb dL_law_1809 (by decide) ?_
        refine q_callV (rest := []) C (c_X8_meet_0 l D cy N0 (h) y ms_ mb mw od pt fi re rc rs so ot cn la ro gr 0 0 0 0 0 (nI 1) (nI 1) 0 f2 g2 s1 s2 s3 0 hY hms hmb hR hRB) kX8_meet g1421 g1422 rfl g1423 g4 hP hS hY (by first | decide | omega) hl.1 rfl (by decide) (by first | decide | omega) dL_law_1810 (fun q ce E h' H1 locs1 hE => hE.elim) (fun v hh11 H locs hq hP hS => ?_)
        obtain ⟨cd', rfl, rfl, hq⟩ := hq
        rcases hq with ⟨gB, rfl⟩ | ⟨gB, rfl⟩
        · replace hT := (qs_ne (h := h) (a := y) (o := (.inr (8, [.ref ms_, .ref mb, .ref mw, .int gr, .int 1, .int 0, .int 0, .ref od, .ref pt, .int 0, .int 0, .ref fi, .ref re, .int (nI 1), .ref rc, .ref rs, .ref so, .ref ot, .ref cn, .ref la, .int (nI 1), .ref ro, .int 0]))) (fun q => by subst q; have := hT.symm.trans hY; first | cases this | simp at this)).trans hT
          replace hsl := (qs_ne (h := h) (a := y) (o := (.inr (8, [.ref ms_, .ref mb, .ref mw, .int gr, .int 1, .int 0, .int 0, .ref od, .ref pt, .int 0, .int 0, .ref fi, .ref re, .int (nI 1), .ref rc, .ref rs, .ref so, .ref ot, .ref cn, .ref la, .int (nI 1), .ref ro, .int 0]))) (fun q => by subst q; have := hsl.symm.trans hY; first | cases this | simp at this)).trans hsl
          replace ho := (qs_ne (h := h) (a := y) (o := (.inr (8, [.ref ms_, .ref mb, .ref mw, .int gr, .int 1, .int 0, .int 0, .ref od, .ref pt, .int 0, .int 0, .ref fi, .ref re, .int (nI 1), .ref rc, .ref rs, .ref so, .ref ot, .ref cn, .ref la, .int (nI 1), .ref ro, .int 0]))) (fun q => by subst q; have := ho.symm.trans hY; first | cases this | simp at this)).trans ho
          replace hY : (qs h y (.inr (8, [.ref ms_, .ref mb, .ref mw, .int gr, .int 1, .int 0, .int 0, .ref od, .ref pt, .int 0, .int 0, .ref fi, .ref re, .int (nI 1), .ref rc, .ref rs, .ref so, .ref ot, .ref cn, .ref la, .int (nI 1), .ref ro, .int 0]))) y = some (.inr (8, [.ref ms_, .ref mb, .ref mw, .int gr, .int 1, .int 0, .int 0, .ref od, .ref pt, .int 0, .int 0, .ref fi, .ref re, .int (nI 1), .ref rc, .ref rs, .ref so, .ref ot, .ref cn, .ref la, .int (nI 1), .ref ro, .int 0])) := qs_self
          refine lv_istore (lv' := [(6, .int 0), (5, .int 1), (4, .int 1), (3, .ref o), (2, .ref y), (1, .ref x), (0, .ref b)]) hx hb dL_law_1813 hl (by decide) rfl (fun ls hl => ?_)
          refine lv_aload_n hx hb dL_law_1815 rfl (lv_at hl 4 rfl) ?_
          refine q_callV (rest := []) C (c_X8_thrown l D cy N0 (qs h y (.inr (8, [.ref ms_, .ref mb, .ref mw, .int gr, .int 1, .int 0, .int 0, .ref od, .ref pt, .int 0, .int 0, .ref fi, .ref re, .int (nI 1), .ref rc, .ref rs, .ref so, .ref ot, .ref cn, .ref la, .int (nI 1), .ref ro, .int 0]))) y ms_ mb mw od pt fi re rc rs so ot cn la ro gr 1 0 0 0 0 (nI 1) (nI 1) 0 hY) kX8_thrown g1238 g1239 rfl g1240 g4 hP hS hY (by first | decide | omega) hl.1 rfl (by decide) (by first | decide | omega) dL_law_1816 (fun q ce E h' H1 locs1 hE => hE.elim) (fun v hh12 H locs hq hP hS => ?_)
          obtain ⟨rfl, rfl⟩ := hq
          refine lv_iload hx hb dL_law_1819 (lv_at hl 1 rfl) ?_
          refine lv_icmp_eq (tgt := 1826) hx hb dL_law_1821 (by decide) (fun _ => ?_) (fun c9 => absurd rfl c9)
          refine lv_iload hx hb dL_law_1826 (lv_at hl 1 rfl) ?_
          refine lv_if_ne (tgt := 1843) hx hb dL_law_1828 (by decide) (fun _ => ?_) (fun c => absurd c (by decide))
          refine lv_goto (tgt := 2940) hx hb dL_law_1843 (by decide) ?_
          exact kend ls H locs _ _ (by omega) (by omega) hS (lv_sub hl [2, 6] rfl)
        · exact absurd gB gA
      · refine lv_iconst (v := 1) hx hb dL_law_1805 (by decide) ?_
        refine lv_goto (tgt := 1810) hx hb dL_law_1806 (by decide) ?_
        refine q_callV (rest := []) C (c_X8_meet_0 l D cy N0 (h) y ms_ mb mw od pt fi re rc rs so ot cn la ro gr 0 0 0 0 0 (nI 1) (nI 1) 0 f2 g2 s1 s2 s3 1 hY hms hmb hR hRB) kX8_meet g1421 g1422 rfl g1423 g4 hP hS hY (by first | decide | omega) hl.1 rfl (by decide) (by first | decide | omega) dL_law_1810 (fun q ce E h' H1 locs1 hE => hE.elim) (fun v hh13 H locs hq hP hS => ?_)
        obtain ⟨cd', rfl, rfl, hq⟩ := hq
        rcases hq with ⟨gB, rfl⟩ | ⟨gB, rfl⟩
        · replace hT := (qs_ne (h := h) (a := y) (o := (.inr (8, [.ref ms_, .ref mb, .ref mw, .int gr, .int 1, .int 0, .int 0, .ref od, .ref pt, .int 0, .int 0, .ref fi, .ref re, .int (nI 1), .ref rc, .ref rs, .ref so, .ref ot, .ref cn, .ref la, .int (nI 1), .ref ro, .int 0]))) (fun q => by subst q; have := hT.symm.trans hY; first | cases this | simp at this)).trans hT
          replace hsl := (qs_ne (h := h) (a := y) (o := (.inr (8, [.ref ms_, .ref mb, .ref mw, .int gr, .int 1, .int 0, .int 0, .ref od, .ref pt, .int 0, .int 0, .ref fi, .ref re, .int (nI 1), .ref rc, .ref rs, .ref so, .ref ot, .ref cn, .ref la, .int (nI 1), .ref ro, .int 0]))) (fun q => by subst q; have := hsl.symm.trans hY; first | cases this | simp at this)).trans hsl
          replace ho := (qs_ne (h := h) (a := y) (o := (.inr (8, [.ref ms_, .ref mb, .ref mw, .int gr, .int 1, .int 0, .int 0, .ref od, .ref pt, .int 0, .int 0, .ref fi, .ref re, .int (nI 1), .ref rc, .ref rs, .ref so, .ref ot, .ref cn, .ref la, .int (nI 1), .ref ro, .int 0]))) (fun q => by subst q; have := ho.symm.trans hY; first | cases this | simp at this)).trans ho
          replace hY : (qs h y (.inr (8, [.ref ms_, .ref mb, .ref mw, .int gr, .int 1, .int 0, .int 0, .ref od, .ref pt, .int 0, .int 0, .ref fi, .ref re, .int (nI 1), .ref rc, .ref rs, .ref so, .ref ot, .ref cn, .ref la, .int (nI 1), .ref ro, .int 0]))) y = some (.inr (8, [.ref ms_, .ref mb, .ref mw, .int gr, .int 1, .int 0, .int 0, .ref od, .ref pt, .int 0, .int 0, .ref fi, .ref re, .int (nI 1), .ref rc, .ref rs, .ref so, .ref ot, .ref cn, .ref la, .int (nI 1), .ref ro, .int 0])) := qs_self
          refine lv_istore (lv' := [(6, .int 0), (5, .int 1), (4, .int 1), (3, .ref o), (2, .ref y), (1, .ref x), (0, .ref b)]) hx hb dL_law_1813 hl (by decide) rfl (fun ls hl => ?_)
          refine lv_aload_n hx hb dL_law_1815 rfl (lv_at hl 4 rfl) ?_
          refine q_callV (rest := []) C (c_X8_thrown l D cy N0 (qs h y (.inr (8, [.ref ms_, .ref mb, .ref mw, .int gr, .int 1, .int 0, .int 0, .ref od, .ref pt, .int 0, .int 0, .ref fi, .ref re, .int (nI 1), .ref rc, .ref rs, .ref so, .ref ot, .ref cn, .ref la, .int (nI 1), .ref ro, .int 0]))) y ms_ mb mw od pt fi re rc rs so ot cn la ro gr 1 0 0 0 0 (nI 1) (nI 1) 0 hY) kX8_thrown g1238 g1239 rfl g1240 g4 hP hS hY (by first | decide | omega) hl.1 rfl (by decide) (by first | decide | omega) dL_law_1816 (fun q ce E h' H1 locs1 hE => hE.elim) (fun v hh14 H locs hq hP hS => ?_)
          obtain ⟨rfl, rfl⟩ := hq
          refine lv_iload hx hb dL_law_1819 (lv_at hl 1 rfl) ?_
          refine lv_icmp_eq (tgt := 1826) hx hb dL_law_1821 (by decide) (fun _ => ?_) (fun c9 => absurd rfl c9)
          refine lv_iload hx hb dL_law_1826 (lv_at hl 1 rfl) ?_
          refine lv_if_ne (tgt := 1843) hx hb dL_law_1828 (by decide) (fun _ => ?_) (fun c => absurd c (by decide))
          refine lv_goto (tgt := 2940) hx hb dL_law_1843 (by decide) ?_
          exact kend ls H locs _ _ (by omega) (by omega) hS (lv_sub hl [2, 6] rfl)
        · exact absurd gB gA
    · refine lv_istore (lv' := [(5, .int 2), (4, .int 1), (3, .ref o), (2, .ref y), (1, .ref x), (0, .ref b)]) hx hb dL_law_1775 hl (by decide) rfl (fun ls hl => ?_)
      refine lv_aload_n hx hb dL_law_1777 rfl (lv_at hl 3 rfl) ?_
      refine lv_aload_n hx hb dL_law_1778 rfl (lv_at hl 5 rfl) ?_
      refine lv_iload hx hb dL_law_1779 (lv_at hl 1 rfl) ?_
      refine lv_iconst (v := 1) hx hb dL_law_1781 (by decide) ?_
      refine lv_iadd hx hb dL_law_1782 ?_
      refine va_sld hx hb hX hbl0 hbA hS (by unfold vp_in; decide) dL_law_1783 ?_
      rw [← es1]
      refine lv_aload_n hx hb dL_law_1784 rfl (lv_at hl 5 rfl) ?_
      refine lv_iload hx hb dL_law_1785 (lv_at hl 1 rfl) ?_
      refine lv_iconst (v := 2) hx hb dL_law_1787 (by decide) ?_
      refine lv_iadd hx hb dL_law_1788 ?_
      refine va_sld hx hb hX hbl0 hbA hS (by unfold vp_in; decide) dL_law_1789 ?_
      rw [← es2]
      refine lv_aload_n hx hb dL_law_1790 rfl (lv_at hl 5 rfl) ?_
      refine lv_iload hx hb dL_law_1791 (lv_at hl 1 rfl) ?_
      refine lv_iconst (v := 3) hx hb dL_law_1793 (by decide) ?_
      refine lv_iadd hx hb dL_law_1794 ?_
      refine va_sld hx hb hX hbl0 hbA hS (by unfold vp_in; decide) dL_law_1795 ?_
      rw [← es3]
      refine lv_aload_n hx hb dL_law_1796 rfl (lv_at hl 5 rfl) ?_
      refine lv_iload hx hb dL_law_1797 (lv_at hl 1 rfl) ?_
      refine lv_iconst (v := 4) hx hb dL_law_1799 (by decide) ?_
      refine lv_iadd hx hb dL_law_1800 ?_
      refine va_sld hx hb hX hbl0 hbA hS (by unfold vp_in; decide) dL_law_1801 ?_
      rw [← es4]
      refine lv_if_eq (tgt := 1809) hx hb dL_law_1802 (by decide) (fun c1802 => ?_) (fun c1802 => ?_)
      · refine lv_iconst (v := 0) hx hb dL_law_1809 (by decide) ?_
        refine q_callV (rest := []) C (c_X8_meet_0 l D cy N0 (h) y ms_ mb mw od pt fi re rc rs so ot cn la ro gr 0 0 0 0 0 (nI 1) (nI 1) 0 f2 g2 s1 s2 s3 0 hY hms hmb hR hRB) kX8_meet g1421 g1422 rfl g1423 g4 hP hS hY (by first | decide | omega) hl.1 rfl (by decide) (by first | decide | omega) dL_law_1810 (fun q ce E h' H1 locs1 hE => hE.elim) (fun v hh15 H locs hq hP hS => ?_)
        obtain ⟨cd', rfl, rfl, hq⟩ := hq
        rcases hq with ⟨gB, rfl⟩ | ⟨gB, rfl⟩
        · exact absurd gA gB
        · replace hT := (qs_ne (h := h) (a := y) (o := (.inr (8, [.ref ms_, .ref mb, .ref mw, .int gr, .int 2, .int 0, .int 0, .ref od, .ref pt, .int 0, .int 0, .ref fi, .ref re, .int (nI 1), .ref rc, .ref rs, .ref so, .ref ot, .ref cn, .ref la, .int (nI 1), .ref ro, .int 0]))) (fun q => by subst q; have := hT.symm.trans hY; first | cases this | simp at this)).trans hT
          replace hsl := (qs_ne (h := h) (a := y) (o := (.inr (8, [.ref ms_, .ref mb, .ref mw, .int gr, .int 2, .int 0, .int 0, .ref od, .ref pt, .int 0, .int 0, .ref fi, .ref re, .int (nI 1), .ref rc, .ref rs, .ref so, .ref ot, .ref cn, .ref la, .int (nI 1), .ref ro, .int 0]))) (fun q => by subst q; have := hsl.symm.trans hY; first | cases this | simp at this)).trans hsl
          replace ho := (qs_ne (h := h) (a := y) (o := (.inr (8, [.ref ms_, .ref mb, .ref mw, .int gr, .int 2, .int 0, .int 0, .ref od, .ref pt, .int 0, .int 0, .ref fi, .ref re, .int (nI 1), .ref rc, .ref rs, .ref so, .ref ot, .ref cn, .ref la, .int (nI 1), .ref ro, .int 0]))) (fun q => by subst q; have := ho.symm.trans hY; first | cases this | simp at this)).trans ho
          replace hY : (qs h y (.inr (8, [.ref ms_, .ref mb, .ref mw, .int gr, .int 2, .int 0, .int 0, .ref od, .ref pt, .int 0, .int 0, .ref fi, .ref re, .int (nI 1), .ref rc, .ref rs, .ref so, .ref ot, .ref cn, .ref la, .int (nI 1), .ref ro, .int 0]))) y = some (.inr (8, [.ref ms_, .ref mb, .ref mw, .int gr, .int 2, .int 0, .int 0, .ref od, .ref pt, .int 0, .int 0, .ref fi, .ref re, .int (nI 1), .ref rc, .ref rs, .ref so, .ref ot, .ref cn, .ref la, .int (nI 1), .ref ro, .int 0])) := qs_self
          refine lv_istore (lv' := [(6, .int 0), (5, .int 2), (4, .int 1), (3, .ref o), (2, .ref y), (1, .ref x), (0, .ref b)]) hx hb dL_law_1813 hl (by decide) rfl (fun ls hl => ?_)
          refine lv_aload_n hx hb dL_law_1815 rfl (lv_at hl 4 rfl) ?_
          refine q_callV (rest := []) C (c_X8_thrown l D cy N0 (qs h y (.inr (8, [.ref ms_, .ref mb, .ref mw, .int gr, .int 2, .int 0, .int 0, .ref od, .ref pt, .int 0, .int 0, .ref fi, .ref re, .int (nI 1), .ref rc, .ref rs, .ref so, .ref ot, .ref cn, .ref la, .int (nI 1), .ref ro, .int 0]))) y ms_ mb mw od pt fi re rc rs so ot cn la ro gr 2 0 0 0 0 (nI 1) (nI 1) 0 hY) kX8_thrown g1238 g1239 rfl g1240 g4 hP hS hY (by first | decide | omega) hl.1 rfl (by decide) (by first | decide | omega) dL_law_1816 (fun q ce E h' H1 locs1 hE => hE.elim) (fun v hh16 H locs hq hP hS => ?_)
          obtain ⟨rfl, rfl⟩ := hq
          refine lv_iload hx hb dL_law_1819 (lv_at hl 1 rfl) ?_
          refine lv_icmp_eq (tgt := 1826) hx hb dL_law_1821 (by decide) (fun _ => ?_) (fun c9 => absurd rfl c9)
          refine lv_iload hx hb dL_law_1826 (lv_at hl 1 rfl) ?_
          refine lv_if_ne (tgt := 1843) hx hb dL_law_1828 (by decide) (fun _ => ?_) (fun c => absurd c (by decide))
          refine lv_goto (tgt := 2940) hx hb dL_law_1843 (by decide) ?_
          exact kend ls H locs _ _ (by omega) (by omega) hS (lv_sub hl [2, 6] rfl)
      · refine lv_iconst (v := 1) hx hb dL_law_1805 (by decide) ?_
        refine lv_goto (tgt := 1810) hx hb dL_law_1806 (by decide) ?_
        refine q_callV (rest := []) C (c_X8_meet_0 l D cy N0 (h) y ms_ mb mw od pt fi re rc rs so ot cn la ro gr 0 0 0 0 0 (nI 1) (nI 1) 0 f2 g2 s1 s2 s3 1 hY hms hmb hR hRB) kX8_meet g1421 g1422 rfl g1423 g4 hP hS hY (by first | decide | omega) hl.1 rfl (by decide) (by first | decide | omega) dL_law_1810 (fun q ce E h' H1 locs1 hE => hE.elim) (fun v hh17 H locs hq hP hS => ?_)
        obtain ⟨cd', rfl, rfl, hq⟩ := hq
        rcases hq with ⟨gB, rfl⟩ | ⟨gB, rfl⟩
        · exact absurd gA gB
        · replace hT := (qs_ne (h := h) (a := y) (o := (.inr (8, [.ref ms_, .ref mb, .ref mw, .int gr, .int 2, .int 0, .int 0, .ref od, .ref pt, .int 0, .int 0, .ref fi, .ref re, .int (nI 1), .ref rc, .ref rs, .ref so, .ref ot, .ref cn, .ref la, .int (nI 1), .ref ro, .int 0]))) (fun q => by subst q; have := hT.symm.trans hY; first | cases this | simp at this)).trans hT
          replace hsl := (qs_ne (h := h) (a := y) (o := (.inr (8, [.ref ms_, .ref mb, .ref mw, .int gr, .int 2, .int 0, .int 0, .ref od, .ref pt, .int 0, .int 0, .ref fi, .ref re, .int (nI 1), .ref rc, .ref rs, .ref so, .ref ot, .ref cn, .ref la, .int (nI 1), .ref ro, .int 0]))) (fun q => by subst q; have := hsl.symm.trans hY; first | cases this | simp at this)).trans hsl
          replace ho := (qs_ne (h := h) (a := y) (o := (.inr (8, [.ref ms_, .ref mb, .ref mw, .int gr, .int 2, .int 0, .int 0, .ref od, .ref pt, .int 0, .int 0, .ref fi, .ref re, .int (nI 1), .ref rc, .ref rs, .ref so, .ref ot, .ref cn, .ref la, .int (nI 1), .ref ro, .int 0]))) (fun q => by subst q; have := ho.symm.trans hY; first | cases this | simp at this)).trans ho
          replace hY : (qs h y (.inr (8, [.ref ms_, .ref mb, .ref mw, .int gr, .int 2, .int 0, .int 0, .ref od, .ref pt, .int 0, .int 0, .ref fi, .ref re, .int (nI 1), .ref rc, .ref rs, .ref so, .ref ot, .ref cn, .ref la, .int (nI 1), .ref ro, .int 0]))) y = some (.inr (8, [.ref ms_, .ref mb, .ref mw, .int gr, .int 2, .int 0, .int 0, .ref od, .ref pt, .int 0, .int 0, .ref fi, .ref re, .int (nI 1), .ref rc, .ref rs, .ref so, .ref ot, .ref cn, .ref la, .int (nI 1), .ref ro, .int 0])) := qs_self
          refine lv_istore (lv' := [(6, .int 0), (5, .int 2), (4, .int 1), (3, .ref o), (2, .ref y), (1, .ref x), (0, .ref b)]) hx hb dL_law_1813 hl (by decide) rfl (fun ls hl => ?_)
          refine lv_aload_n hx hb dL_law_1815 rfl (lv_at hl 4 rfl) ?_
          refine q_callV (rest := []) C (c_X8_thrown l D cy N0 (qs h y (.inr (8, [.ref ms_, .ref mb, .ref mw, .int gr, .int 2, .int 0, .int 0, .ref od, .ref pt, .int 0, .int 0, .ref fi, .ref re, .int (nI 1), .ref rc, .ref rs, .ref so, .ref ot, .ref cn, .ref la, .int (nI 1), .ref ro, .int 0]))) y ms_ mb mw od pt fi re rc rs so ot cn la ro gr 2 0 0 0 0 (nI 1) (nI 1) 0 hY) kX8_thrown g1238 g1239 rfl g1240 g4 hP hS hY (by first | decide | omega) hl.1 rfl (by decide) (by first | decide | omega) dL_law_1816 (fun q ce E h' H1 locs1 hE => hE.elim) (fun v hh18 H locs hq hP hS => ?_)
          obtain ⟨rfl, rfl⟩ := hq
          refine lv_iload hx hb dL_law_1819 (lv_at hl 1 rfl) ?_
          refine lv_icmp_eq (tgt := 1826) hx hb dL_law_1821 (by decide) (fun _ => ?_) (fun c9 => absurd rfl c9)
          refine lv_iload hx hb dL_law_1826 (lv_at hl 1 rfl) ?_
          refine lv_if_ne (tgt := 1843) hx hb dL_law_1828 (by decide) (fun _ => ?_) (fun c => absurd c (by decide))
          refine lv_goto (tgt := 2940) hx hb dL_law_1843 (by decide) ?_
          exact kend ls H locs _ _ (by omega) (by omega) hS (lv_sub hl [2, 6] rfl)
