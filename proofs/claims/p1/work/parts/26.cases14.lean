theorem dL_law_2717 : decode cL_law 2717 = .ok (.aload_n 1, 1) := by decide +kernel
theorem dL_law_2718 : decode cL_law 2718 = .ok (.aload_n 0, 1) := by decide +kernel
theorem dL_law_2719 : decode cL_law 2719 = .ok (.iload 4, 2) := by decide +kernel
theorem dL_law_2721 : decode cL_law 2721 = .ok (.iconst 1, 1) := by decide +kernel
theorem dL_law_2722 : decode cL_law 2722 = .ok (.iadd, 1) := by decide +kernel
theorem dL_law_2723 : decode cL_law 2723 = .ok (.iaload, 1) := by decide +kernel
theorem dL_law_2724 : decode cL_law 2724 = .ok (.aload_n 0, 1) := by decide +kernel
theorem dL_law_2725 : decode cL_law 2725 = .ok (.iload 4, 2) := by decide +kernel
theorem dL_law_2727 : decode cL_law 2727 = .ok (.iconst 2, 1) := by decide +kernel
theorem dL_law_2728 : decode cL_law 2728 = .ok (.iadd, 1) := by decide +kernel
theorem dL_law_2729 : decode cL_law 2729 = .ok (.iaload, 1) := by decide +kernel
theorem dL_law_2730 : decode cL_law 2730 = .ok (.i2l, 1) := by decide +kernel
theorem dL_law_2731 : decode cL_law 2731 = .ok (.bipush 32, 2) := by decide +kernel
theorem dL_law_2733 : decode cL_law 2733 = .ok (.lshl, 1) := by decide +kernel
theorem dL_law_2734 : decode cL_law 2734 = .ok (.aload_n 0, 1) := by decide +kernel
theorem dL_law_2735 : decode cL_law 2735 = .ok (.iload 4, 2) := by decide +kernel
theorem dL_law_2737 : decode cL_law 2737 = .ok (.iconst 3, 1) := by decide +kernel
theorem dL_law_2738 : decode cL_law 2738 = .ok (.iadd, 1) := by decide +kernel
theorem dL_law_2739 : decode cL_law 2739 = .ok (.iaload, 1) := by decide +kernel
theorem dL_law_2740 : decode cL_law 2740 = .ok (.i2l, 1) := by decide +kernel
theorem dL_law_2741 : decode cL_law 2741 = .ok (.ldc2_w 161, 3) := by decide +kernel
theorem dL_law_2744 : decode cL_law 2744 = .ok (.land, 1) := by decide +kernel
theorem dL_law_2745 : decode cL_law 2745 = .ok (.lor, 1) := by decide +kernel
theorem dL_law_2746 : decode cL_law 2746 = .ok (.aload_n 3, 1) := by decide +kernel
theorem dL_law_2747 : decode cL_law 2747 = .ok (.invokestatic 247, 3) := by decide +kernel
theorem dL_law_2750 : decode cL_law 2750 = .ok (.istore 5, 2) := by decide +kernel
theorem dL_law_2752 : decode cL_law 2752 = .ok (.aload_n 2, 1) := by decide +kernel
theorem dL_law_2753 : decode cL_law 2753 = .ok (.aload_n 0, 1) := by decide +kernel
theorem dL_law_2754 : decode cL_law 2754 = .ok (.iload 4, 2) := by decide +kernel
theorem dL_law_2756 : decode cL_law 2756 = .ok (.iconst 1, 1) := by decide +kernel
theorem dL_law_2757 : decode cL_law 2757 = .ok (.iadd, 1) := by decide +kernel
theorem dL_law_2758 : decode cL_law 2758 = .ok (.iaload, 1) := by decide +kernel
theorem dL_law_2759 : decode cL_law 2759 = .ok (.aload_n 0, 1) := by decide +kernel
theorem dL_law_2760 : decode cL_law 2760 = .ok (.iload 4, 2) := by decide +kernel
theorem dL_law_2762 : decode cL_law 2762 = .ok (.iconst 2, 1) := by decide +kernel
theorem dL_law_2763 : decode cL_law 2763 = .ok (.iadd, 1) := by decide +kernel
theorem dL_law_2764 : decode cL_law 2764 = .ok (.iaload, 1) := by decide +kernel
theorem dL_law_2765 : decode cL_law 2765 = .ok (.i2l, 1) := by decide +kernel
theorem dL_law_2766 : decode cL_law 2766 = .ok (.bipush 32, 2) := by decide +kernel
theorem dL_law_2768 : decode cL_law 2768 = .ok (.lshl, 1) := by decide +kernel
theorem dL_law_2769 : decode cL_law 2769 = .ok (.aload_n 0, 1) := by decide +kernel
theorem dL_law_2770 : decode cL_law 2770 = .ok (.iload 4, 2) := by decide +kernel
theorem dL_law_2772 : decode cL_law 2772 = .ok (.iconst 3, 1) := by decide +kernel
theorem dL_law_2773 : decode cL_law 2773 = .ok (.iadd, 1) := by decide +kernel
theorem dL_law_2774 : decode cL_law 2774 = .ok (.iaload, 1) := by decide +kernel
theorem dL_law_2775 : decode cL_law 2775 = .ok (.i2l, 1) := by decide +kernel
theorem dL_law_2776 : decode cL_law 2776 = .ok (.ldc2_w 161, 3) := by decide +kernel
theorem dL_law_2779 : decode cL_law 2779 = .ok (.land, 1) := by decide +kernel
theorem dL_law_2780 : decode cL_law 2780 = .ok (.lor, 1) := by decide +kernel
theorem dL_law_2781 : decode cL_law 2781 = .ok (.invokevirtual 249, 3) := by decide +kernel
theorem dL_law_2784 : decode cL_law 2784 = .ok (.lstore 6, 2) := by decide +kernel
theorem dL_law_2786 : decode cL_law 2786 = .ok (.aload_n 2, 1) := by decide +kernel
theorem dL_law_2787 : decode cL_law 2787 = .ok (.invokevirtual 147, 3) := by decide +kernel
theorem dL_law_2790 : decode cL_law 2790 = .ok (.iload 5, 2) := by decide +kernel
theorem dL_law_2792 : decode cL_law 2792 = .ok (.if_icmp .eq 5, 3) := by decide +kernel
theorem dL_law_2797 : decode cL_law 2797 = .ok (.iload 5, 2) := by decide +kernel
theorem dL_law_2799 : decode cL_law 2799 = .ok (.ifCond .ne 14, 3) := by decide +kernel
theorem dL_law_2813 : decode cL_law 2813 = .ok (.goto 127, 3) := by decide +kernel
set_option maxRecDepth 100000 in
set_option maxHeartbeats 4000000 in
theorem lc_look {p : Program} {l : Launch} {e : Env} {mc ms : Nat} {s : State} {m : MethodId} {below : List Frame} {meth : Method} {c : Code} {H : Heap} {locs : List Loc} {cells slots : Nat} {Q : State → Prop} {rt0 : Option FieldType} {nm0 : String} {D : va_G} {cy : Nat → ClassId} {N0 : Nat} {tb : List ExceptionTableEntry} {h : qH} {ls : Array Slot} {b : Nat} {xs : Nat → Int32} {x sl bl kr vr : Nat} {hm ed : Int32} {f g : Nat → Option Nat} {y ms_ mb mw od pt fi re rc rs so ot cn la ro : Nat} {gr : Int32} {f2 g2 : Nat → Option Nat} {o : Nat} {fo : Nat → Int64} (C : qX p l s m #[Value.ref b] meth c RL cL_law 8 rt0 nm0 D cy N0 tb) (hX : va_X b 8 xs s s.heap) (hbl0 : b < s.heap.size) (hbA : ¬ qA N0 b) (hP : qP D N0 h H) (hS : va_S (qA N0) s.heap H locs) (hcm : cells + 20 ≤ mc) (hsm : slots + 200 ≤ ms) (hT : h x = some (.inr (6, [.int hm, .ref sl, .ref bl, .ref kr, .ref vr, .int 0, .int 0, .int ed]))) (hsl : h sl = some (.inl (cy 3, 24, .inr (.inr (.inr (.inr f)))))) (hF : ∀ i, i < 24 → f i = none) (hbl : h bl = some (.inl (cy 2, 4, .inr (.inr (.inr (.inr g)))))) (hB : ∀ j, j < 4 → ∃ (b rw : Nat) (kd ln e2 : Int32) (rt : Option Nat), qBd h g j b rw 0 kd ln e2 rt) (hY : h y = some (.inr (8, [.ref ms_, .ref mb, .ref mw, .int gr, .int 0, .int 0, .int 0, .ref od, .ref pt, .int 0, .int 0, .ref fi, .ref re, .int (nI 1), .ref rc, .ref rs, .ref so, .ref ot, .ref cn, .ref la, .int (nI 1), .ref ro, .int 0]))) (hms : h ms_ = some (.inl (cy 5, 24, .inr (.inr (.inr (.inr f2)))))) (hmb : h mb = some (.inl (cy 5, 4, .inr (.inr (.inr (.inr g2)))))) (hR : qRo h f2 24) (hRB : qRo h g2 4) (ho : h o = some (.inl (cy 1, 1, .inr (.inl fo)))) (hfi : h fi = some (.inl (cy 1, 1024, .inr (.inl (fun _ => 0))))) (hre : h re = some (.inl (cy 0, 1024, .inl (fun _ => 0)))) (hrc : h rc = some (.inl (cy 0, 1024, .inl (fun _ => 0)))) (hso : h so = some (.inl (cy 0, 1024, .inl (fun _ => 0)))) (hot : h ot = some (.inl (cy 0, 1024, .inl (fun _ => 0)))) (hcn : h cn = some (.inl (cy 1, 1024, .inr (.inl (fun _ => 0))))) (hla : h la = some (.inl (cy 1, 1024, .inr (.inl (fun _ => 0))))) (n_so_rc : rc ≠ so) (n_ot_rc : rc ≠ ot) (n_rc_re : re ≠ rc) (n_ot_so : so ≠ ot) (n_so_re : re ≠ so) (n_ot_re : re ≠ ot) (n_la_cn : cn ≠ la) (n_cn_fi : fi ≠ cn) (n_la_fi : fi ≠ la) (n_ms_sl : ms_ ≠ sl) (n_mb_sl : mb ≠ sl) (hl : lv_has ls 8 [(4, .int 1), (3, .ref o), (2, .ref y), (1, .ref x), (0, .ref b)]) (kend : ∀ (ls : Array Slot) (H : Heap) (locs : List Loc) (ce sl : Nat), ce ≤ cells + 20 → sl ≤ slots + 200 → va_S (qA N0) s.heap H locs → lv_has ls 8 [(4, .int 1), (0, .ref b)] → W p l e (qR 2048 84000 mc ms) s m #[Value.ref b] below meth c H locs ce sl Q (F0 m 2940 ls [])) : W p l e (qR 2048 84000 mc ms) s m #[Value.ref b] below meth c H locs cells slots Q (F0 m 2717 ls []) := by
  have hx := C.1
  have hb := C.2.1
  refine lv_aload_n hx hb dL_law_2717 rfl (lv_at hl 3 rfl) ?_
  refine lv_aload_n hx hb dL_law_2718 rfl (lv_at hl 4 rfl) ?_
  refine lv_iload hx hb dL_law_2719 (lv_at hl 0 rfl) ?_
  refine lv_iconst (v := 1) hx hb dL_law_2721 (by decide) ?_
  refine lv_iadd hx hb dL_law_2722 ?_
  refine va_sld hx hb hX hbl0 hbA hS (by unfold vp_in; decide) dL_law_2723 ?_
  refine lv_topi (fun s1 es1 => ?_)
  refine lv_aload_n hx hb dL_law_2724 rfl (lv_at hl 4 rfl) ?_
  refine lv_iload hx hb dL_law_2725 (lv_at hl 0 rfl) ?_
  refine lv_iconst (v := 2) hx hb dL_law_2727 (by decide) ?_
  refine lv_iadd hx hb dL_law_2728 ?_
  refine va_sld hx hb hX hbl0 hbA hS (by unfold vp_in; decide) dL_law_2729 ?_
  refine lv_topi (fun s2 es2 => ?_)
  refine lv_i2l hx hb dL_law_2730 rfl ?_
  refine lv_bipush (v := 32) hx hb dL_law_2731 (by decide) ?_
  refine lv_lshl hx hb dL_law_2733 rfl ?_
  refine lv_aload_n hx hb dL_law_2734 rfl (lv_at hl 4 rfl) ?_
  refine lv_iload hx hb dL_law_2735 (lv_at hl 0 rfl) ?_
  refine lv_iconst (v := 3) hx hb dL_law_2737 (by decide) ?_
  refine lv_iadd hx hb dL_law_2738 ?_
  refine va_sld hx hb hX hbl0 hbA hS (by unfold vp_in; decide) dL_law_2739 ?_
  refine lv_topi (fun s3 es3 => ?_)
  refine lv_i2l hx hb dL_law_2740 rfl ?_
  refine lv_ldc2 hx hb C.2.2.2.2.1 (C.2.2.2.2.2.1 _ g1484) dL_law_2741 ?_
  refine lv_land hx hb dL_law_2744 ?_
  refine lv_lor hx hb dL_law_2745 ?_
  refine lv_topl (fun q2 eq2 => ?_)
  refine lv_aload_n hx hb dL_law_2746 rfl (lv_at hl 1 rfl) ?_
  refine q_callSW (rest := []) C (c_L_look_0 l D cy N0 (h) x sl bl kr vr hm 0 0 ed f g s1 q2 o hT hsl hF hbl hB) kwL_look g1052 g1053 hP hS (by omega) hl.1 rfl (by decide) (by omega) dL_law_2747 (fun v hh1 H locs hq hP hS => ?_)
  obtain ⟨rfl, hq⟩ := hq
  rcases hq with ⟨rfl, gA⟩ | ⟨rfl, gA⟩
  · refine lv_istore (lv' := [(5, .int 1), (4, .int 1), (3, .ref o), (2, .ref y), (1, .ref x), (0, .ref b)]) hx hb dL_law_2750 hl (by decide) rfl (fun ls hl => ?_)
    refine lv_aload_n hx hb dL_law_2752 rfl (lv_at hl 3 rfl) ?_
    refine lv_aload_n hx hb dL_law_2753 rfl (lv_at hl 5 rfl) ?_
    refine lv_iload hx hb dL_law_2754 (lv_at hl 1 rfl) ?_
    refine lv_iconst (v := 1) hx hb dL_law_2756 (by decide) ?_
    refine lv_iadd hx hb dL_law_2757 ?_
    refine va_sld hx hb hX hbl0 hbA hS (by unfold vp_in; decide) dL_law_2758 ?_
    rw [← es1]
    refine lv_aload_n hx hb dL_law_2759 rfl (lv_at hl 5 rfl) ?_
    refine lv_iload hx hb dL_law_2760 (lv_at hl 1 rfl) ?_
    refine lv_iconst (v := 2) hx hb dL_law_2762 (by decide) ?_
    refine lv_iadd hx hb dL_law_2763 ?_
    refine va_sld hx hb hX hbl0 hbA hS (by unfold vp_in; decide) dL_law_2764 ?_
    rw [← es2]
    refine lv_i2l hx hb dL_law_2765 rfl ?_
    refine lv_bipush (v := 32) hx hb dL_law_2766 (by decide) ?_
    refine lv_lshl hx hb dL_law_2768 rfl ?_
    refine lv_aload_n hx hb dL_law_2769 rfl (lv_at hl 5 rfl) ?_
    refine lv_iload hx hb dL_law_2770 (lv_at hl 1 rfl) ?_
    refine lv_iconst (v := 3) hx hb dL_law_2772 (by decide) ?_
    refine lv_iadd hx hb dL_law_2773 ?_
    refine va_sld hx hb hX hbl0 hbA hS (by unfold vp_in; decide) dL_law_2774 ?_
    rw [← es3]
    refine lv_i2l hx hb dL_law_2775 rfl ?_
    refine lv_ldc2 hx hb C.2.2.2.2.1 (C.2.2.2.2.2.1 _ g1484) dL_law_2776 ?_
    refine lv_land hx hb dL_law_2779 ?_
    refine lv_lor hx hb dL_law_2780 ?_
    rw [← eq2]
    refine q_callV (rest := []) C (c_X8_look_0 l D cy N0 (h) y ms_ mb mw od pt fi re rc rs so ot cn la ro gr 0 0 0 0 0 (nI 1) (nI 1) 0 f2 g2 s1 q2 hY hms hmb hR hRB) kX8_look g1472 g1473 rfl g1474 g4 hP hS hY (by first | decide | omega) hl.1 rfl (by decide) (by first | decide | omega) dL_law_2781 (fun q ce E h' H1 locs1 hE => hE.elim) (fun v hh2 H locs hq hP hS => ?_)
    obtain ⟨cd', rfl, rfl, hq⟩ := hq
    rcases hq with ⟨gB, rfl⟩ | ⟨gB, rfl⟩
    · replace hT := (qs_ne (h := h) (a := y) (o := (.inr (8, [.ref ms_, .ref mb, .ref mw, .int gr, .int 1, .int 0, .int 0, .ref od, .ref pt, .int 0, .int 0, .ref fi, .ref re, .int (nI 1), .ref rc, .ref rs, .ref so, .ref ot, .ref cn, .ref la, .int (nI 1), .ref ro, .int 0]))) (fun q => by subst q; have := hT.symm.trans hY; first | cases this | simp at this)).trans hT
      replace hsl := (qs_ne (h := h) (a := y) (o := (.inr (8, [.ref ms_, .ref mb, .ref mw, .int gr, .int 1, .int 0, .int 0, .ref od, .ref pt, .int 0, .int 0, .ref fi, .ref re, .int (nI 1), .ref rc, .ref rs, .ref so, .ref ot, .ref cn, .ref la, .int (nI 1), .ref ro, .int 0]))) (fun q => by subst q; have := hsl.symm.trans hY; first | cases this | simp at this)).trans hsl
      replace ho := (qs_ne (h := h) (a := y) (o := (.inr (8, [.ref ms_, .ref mb, .ref mw, .int gr, .int 1, .int 0, .int 0, .ref od, .ref pt, .int 0, .int 0, .ref fi, .ref re, .int (nI 1), .ref rc, .ref rs, .ref so, .ref ot, .ref cn, .ref la, .int (nI 1), .ref ro, .int 0]))) (fun q => by subst q; have := ho.symm.trans hY; first | cases this | simp at this)).trans ho
      replace hY : (qs h y (.inr (8, [.ref ms_, .ref mb, .ref mw, .int gr, .int 1, .int 0, .int 0, .ref od, .ref pt, .int 0, .int 0, .ref fi, .ref re, .int (nI 1), .ref rc, .ref rs, .ref so, .ref ot, .ref cn, .ref la, .int (nI 1), .ref ro, .int 0]))) y = some (.inr (8, [.ref ms_, .ref mb, .ref mw, .int gr, .int 1, .int 0, .int 0, .ref od, .ref pt, .int 0, .int 0, .ref fi, .ref re, .int (nI 1), .ref rc, .ref rs, .ref so, .ref ot, .ref cn, .ref la, .int (nI 1), .ref ro, .int 0])) := qs_self
      refine lv_lstore (lv' := [(6, .long 0), (5, .int 1), (4, .int 1), (3, .ref o), (2, .ref y), (1, .ref x), (0, .ref b)]) hx hb dL_law_2784 hl (by decide) rfl (fun ls hl => ?_)
      refine lv_aload_n hx hb dL_law_2786 rfl (lv_at hl 4 rfl) ?_
      refine q_callV (rest := []) C (c_X8_thrown l D cy N0 (qs h y (.inr (8, [.ref ms_, .ref mb, .ref mw, .int gr, .int 1, .int 0, .int 0, .ref od, .ref pt, .int 0, .int 0, .ref fi, .ref re, .int (nI 1), .ref rc, .ref rs, .ref so, .ref ot, .ref cn, .ref la, .int (nI 1), .ref ro, .int 0]))) y ms_ mb mw od pt fi re rc rs so ot cn la ro gr 1 0 0 0 0 (nI 1) (nI 1) 0 hY) kX8_thrown g1238 g1239 rfl g1240 g4 hP hS hY (by first | decide | omega) hl.1 rfl (by decide) (by first | decide | omega) dL_law_2787 (fun q ce E h' H1 locs1 hE => hE.elim) (fun v hh3 H locs hq hP hS => ?_)
      obtain ⟨rfl, rfl⟩ := hq
      refine lv_iload hx hb dL_law_2790 (lv_at hl 1 rfl) ?_
      refine lv_icmp_eq (tgt := 2797) hx hb dL_law_2792 (by decide) (fun _ => ?_) (fun c9 => absurd rfl c9)
      refine lv_iload hx hb dL_law_2797 (lv_at hl 1 rfl) ?_
      refine lv_if_ne (tgt := 2813) hx hb dL_law_2799 (by decide) (fun _ => ?_) (fun c => absurd c (by decide))
      refine lv_goto (tgt := 2940) hx hb dL_law_2813 (by decide) ?_
      exact kend ls H locs _ _ (by omega) (by omega) hS (lv_sub hl [2, 6] rfl)
    · exact absurd gB gA
  · refine lv_istore (lv' := [(5, .int 2), (4, .int 1), (3, .ref o), (2, .ref y), (1, .ref x), (0, .ref b)]) hx hb dL_law_2750 hl (by decide) rfl (fun ls hl => ?_)
    refine lv_aload_n hx hb dL_law_2752 rfl (lv_at hl 3 rfl) ?_
    refine lv_aload_n hx hb dL_law_2753 rfl (lv_at hl 5 rfl) ?_
    refine lv_iload hx hb dL_law_2754 (lv_at hl 1 rfl) ?_
    refine lv_iconst (v := 1) hx hb dL_law_2756 (by decide) ?_
    refine lv_iadd hx hb dL_law_2757 ?_
    refine va_sld hx hb hX hbl0 hbA hS (by unfold vp_in; decide) dL_law_2758 ?_
    rw [← es1]
    refine lv_aload_n hx hb dL_law_2759 rfl (lv_at hl 5 rfl) ?_
    refine lv_iload hx hb dL_law_2760 (lv_at hl 1 rfl) ?_
    refine lv_iconst (v := 2) hx hb dL_law_2762 (by decide) ?_
    refine lv_iadd hx hb dL_law_2763 ?_
    refine va_sld hx hb hX hbl0 hbA hS (by unfold vp_in; decide) dL_law_2764 ?_
    rw [← es2]
    refine lv_i2l hx hb dL_law_2765 rfl ?_
    refine lv_bipush (v := 32) hx hb dL_law_2766 (by decide) ?_
    refine lv_lshl hx hb dL_law_2768 rfl ?_
    refine lv_aload_n hx hb dL_law_2769 rfl (lv_at hl 5 rfl) ?_
    refine lv_iload hx hb dL_law_2770 (lv_at hl 1 rfl) ?_
    refine lv_iconst (v := 3) hx hb dL_law_2772 (by decide) ?_
    refine lv_iadd hx hb dL_law_2773 ?_
    refine va_sld hx hb hX hbl0 hbA hS (by unfold vp_in; decide) dL_law_2774 ?_
    rw [← es3]
    refine lv_i2l hx hb dL_law_2775 rfl ?_
    refine lv_ldc2 hx hb C.2.2.2.2.1 (C.2.2.2.2.2.1 _ g1484) dL_law_2776 ?_
    refine lv_land hx hb dL_law_2779 ?_
    refine lv_lor hx hb dL_law_2780 ?_
    rw [← eq2]
    refine q_callV (rest := []) C (c_X8_look_0 l D cy N0 (h) y ms_ mb mw od pt fi re rc rs so ot cn la ro gr 0 0 0 0 0 (nI 1) (nI 1) 0 f2 g2 s1 q2 hY hms hmb hR hRB) kX8_look g1472 g1473 rfl g1474 g4 hP hS hY (by first | decide | omega) hl.1 rfl (by decide) (by first | decide | omega) dL_law_2781 (fun q ce E h' H1 locs1 hE => hE.elim) (fun v hh4 H locs hq hP hS => ?_)
    obtain ⟨cd', rfl, rfl, hq⟩ := hq
    rcases hq with ⟨gB, rfl⟩ | ⟨gB, rfl⟩
    · exact absurd gA gB
    · replace hT := (qs_ne (h := h) (a := y) (o := (.inr (8, [.ref ms_, .ref mb, .ref mw, .int gr, .int 2, .int 0, .int 0, .ref od, .ref pt, .int 0, .int 0, .ref fi, .ref re, .int (nI 1), .ref rc, .ref rs, .ref so, .ref ot, .ref cn, .ref la, .int (nI 1), .ref ro, .int 0]))) (fun q => by subst q; have := hT.symm.trans hY; first | cases this | simp at this)).trans hT
      replace hsl := (qs_ne (h := h) (a := y) (o := (.inr (8, [.ref ms_, .ref mb, .ref mw, .int gr, .int 2, .int 0, .int 0, .ref od, .ref pt, .int 0, .int 0, .ref fi, .ref re, .int (nI 1), .ref rc, .ref rs, .ref so, .ref ot, .ref cn, .ref la, .int (nI 1), .ref ro, .int 0]))) (fun q => by subst q; have := hsl.symm.trans hY; first | cases this | simp at this)).trans hsl
      replace ho := (qs_ne (h := h) (a := y) (o := (.inr (8, [.ref ms_, .ref mb, .ref mw, .int gr, .int 2, .int 0, .int 0, .ref od, .ref pt, .int 0, .int 0, .ref fi, .ref re, .int (nI 1), .ref rc, .ref rs, .ref so, .ref ot, .ref cn, .ref la, .int (nI 1), .ref ro, .int 0]))) (fun q => by subst q; have := ho.symm.trans hY; first | cases this | simp at this)).trans ho
      replace hY : (qs h y (.inr (8, [.ref ms_, .ref mb, .ref mw, .int gr, .int 2, .int 0, .int 0, .ref od, .ref pt, .int 0, .int 0, .ref fi, .ref re, .int (nI 1), .ref rc, .ref rs, .ref so, .ref ot, .ref cn, .ref la, .int (nI 1), .ref ro, .int 0]))) y = some (.inr (8, [.ref ms_, .ref mb, .ref mw, .int gr, .int 2, .int 0, .int 0, .ref od, .ref pt, .int 0, .int 0, .ref fi, .ref re, .int (nI 1), .ref rc, .ref rs, .ref so, .ref ot, .ref cn, .ref la, .int (nI 1), .ref ro, .int 0])) := qs_self
      refine lv_lstore (lv' := [(6, .long 0), (5, .int 2), (4, .int 1), (3, .ref o), (2, .ref y), (1, .ref x), (0, .ref b)]) hx hb dL_law_2784 hl (by decide) rfl (fun ls hl => ?_)
      refine lv_aload_n hx hb dL_law_2786 rfl (lv_at hl 4 rfl) ?_
      refine q_callV (rest := []) C (c_X8_thrown l D cy N0 (qs h y (.inr (8, [.ref ms_, .ref mb, .ref mw, .int gr, .int 2, .int 0, .int 0, .ref od, .ref pt, .int 0, .int 0, .ref fi, .ref re, .int (nI 1), .ref rc, .ref rs, .ref so, .ref ot, .ref cn, .ref la, .int (nI 1), .ref ro, .int 0]))) y ms_ mb mw od pt fi re rc rs so ot cn la ro gr 2 0 0 0 0 (nI 1) (nI 1) 0 hY) kX8_thrown g1238 g1239 rfl g1240 g4 hP hS hY (by first | decide | omega) hl.1 rfl (by decide) (by first | decide | omega) dL_law_2787 (fun q ce E h' H1 locs1 hE => hE.elim) (fun v hh5 H locs hq hP hS => ?_)
      obtain ⟨rfl, rfl⟩ := hq
      refine lv_iload hx hb dL_law_2790 (lv_at hl 1 rfl) ?_
      refine lv_icmp_eq (tgt := 2797) hx hb dL_law_2792 (by decide) (fun _ => ?_) (fun c9 => absurd rfl c9)
      refine lv_iload hx hb dL_law_2797 (lv_at hl 1 rfl) ?_
      refine lv_if_ne (tgt := 2813) hx hb dL_law_2799 (by decide) (fun _ => ?_) (fun c => absurd c (by decide))
      refine lv_goto (tgt := 2940) hx hb dL_law_2813 (by decide) ?_
      exact kend ls H locs _ _ (by omega) (by omega) hS (lv_sub hl [2, 6] rfl)

theorem dL_law_2816 : decode cL_law 2816 = .ok (.aload_n 1, 1) := by decide +kernel
theorem dL_law_2817 : decode cL_law 2817 = .ok (.aload_n 0, 1) := by decide +kernel
theorem dL_law_2818 : decode cL_law 2818 = .ok (.iload 4, 2) := by decide +kernel
theorem dL_law_2820 : decode cL_law 2820 = .ok (.iconst 1, 1) := by decide +kernel
theorem dL_law_2821 : decode cL_law 2821 = .ok (.iadd, 1) := by decide +kernel
theorem dL_law_2822 : decode cL_law 2822 = .ok (.iaload, 1) := by decide +kernel
theorem dL_law_2823 : decode cL_law 2823 = .ok (.aload_n 0, 1) := by decide +kernel
theorem dL_law_2824 : decode cL_law 2824 = .ok (.iload 4, 2) := by decide +kernel
theorem dL_law_2826 : decode cL_law 2826 = .ok (.iconst 2, 1) := by decide +kernel
theorem dL_law_2827 : decode cL_law 2827 = .ok (.iadd, 1) := by decide +kernel
theorem dL_law_2828 : decode cL_law 2828 = .ok (.iaload, 1) := by decide +kernel
theorem dL_law_2829 : decode cL_law 2829 = .ok (.aload_n 3, 1) := by decide +kernel
theorem dL_law_2830 : decode cL_law 2830 = .ok (.invokestatic 250, 3) := by decide +kernel
theorem dL_law_2833 : decode cL_law 2833 = .ok (.istore 5, 2) := by decide +kernel
theorem dL_law_2835 : decode cL_law 2835 = .ok (.aload_n 2, 1) := by decide +kernel
theorem dL_law_2836 : decode cL_law 2836 = .ok (.aload_n 0, 1) := by decide +kernel
theorem dL_law_2837 : decode cL_law 2837 = .ok (.iload 4, 2) := by decide +kernel
theorem dL_law_2839 : decode cL_law 2839 = .ok (.iconst 1, 1) := by decide +kernel
theorem dL_law_2840 : decode cL_law 2840 = .ok (.iadd, 1) := by decide +kernel
theorem dL_law_2841 : decode cL_law 2841 = .ok (.iaload, 1) := by decide +kernel
theorem dL_law_2842 : decode cL_law 2842 = .ok (.aload_n 0, 1) := by decide +kernel
theorem dL_law_2843 : decode cL_law 2843 = .ok (.iload 4, 2) := by decide +kernel
theorem dL_law_2845 : decode cL_law 2845 = .ok (.iconst 2, 1) := by decide +kernel
theorem dL_law_2846 : decode cL_law 2846 = .ok (.iadd, 1) := by decide +kernel
theorem dL_law_2847 : decode cL_law 2847 = .ok (.iaload, 1) := by decide +kernel
theorem dL_law_2848 : decode cL_law 2848 = .ok (.invokevirtual 252, 3) := by decide +kernel
theorem dL_law_2851 : decode cL_law 2851 = .ok (.istore 6, 2) := by decide +kernel
theorem dL_law_2853 : decode cL_law 2853 = .ok (.aload_n 2, 1) := by decide +kernel
theorem dL_law_2854 : decode cL_law 2854 = .ok (.invokevirtual 147, 3) := by decide +kernel
theorem dL_law_2857 : decode cL_law 2857 = .ok (.iload 5, 2) := by decide +kernel
theorem dL_law_2859 : decode cL_law 2859 = .ok (.if_icmp .eq 5, 3) := by decide +kernel
theorem dL_law_2864 : decode cL_law 2864 = .ok (.iload 5, 2) := by decide +kernel
theorem dL_law_2866 : decode cL_law 2866 = .ok (.ifCond .ne 15, 3) := by decide +kernel
theorem dL_law_2881 : decode cL_law 2881 = .ok (.goto 59, 3) := by decide +kernel
set_option maxRecDepth 100000 in
set_option maxHeartbeats 4000000 in
theorem lc_freeze {p : Program} {l : Launch} {e : Env} {mc ms : Nat} {s : State} {m : MethodId} {below : List Frame} {meth : Method} {c : Code} {H : Heap} {locs : List Loc} {cells slots : Nat} {Q : State → Prop} {rt0 : Option FieldType} {nm0 : String} {D : va_G} {cy : Nat → ClassId} {N0 : Nat} {tb : List ExceptionTableEntry} {h : qH} {ls : Array Slot} {b : Nat} {xs : Nat → Int32} {x sl bl kr vr : Nat} {hm ed : Int32} {f g : Nat → Option Nat} {y ms_ mb mw od pt fi re rc rs so ot cn la ro : Nat} {gr : Int32} {f2 g2 : Nat → Option Nat} {o : Nat} {fo : Nat → Int64} (C : qX p l s m #[Value.ref b] meth c RL cL_law 8 rt0 nm0 D cy N0 tb) (hX : va_X b 8 xs s s.heap) (hbl0 : b < s.heap.size) (hbA : ¬ qA N0 b) (hP : qP D N0 h H) (hS : va_S (qA N0) s.heap H locs) (hcm : cells + 20 ≤ mc) (hsm : slots + 200 ≤ ms) (hT : h x = some (.inr (6, [.int hm, .ref sl, .ref bl, .ref kr, .ref vr, .int 0, .int 0, .int ed]))) (hsl : h sl = some (.inl (cy 3, 24, .inr (.inr (.inr (.inr f)))))) (hF : ∀ i, i < 24 → f i = none) (hbl : h bl = some (.inl (cy 2, 4, .inr (.inr (.inr (.inr g)))))) (hB : ∀ j, j < 4 → ∃ (b rw : Nat) (kd ln e2 : Int32) (rt : Option Nat), qBd h g j b rw 0 kd ln e2 rt) (hY : h y = some (.inr (8, [.ref ms_, .ref mb, .ref mw, .int gr, .int 0, .int 0, .int 0, .ref od, .ref pt, .int 0, .int 0, .ref fi, .ref re, .int (nI 1), .ref rc, .ref rs, .ref so, .ref ot, .ref cn, .ref la, .int (nI 1), .ref ro, .int 0]))) (hms : h ms_ = some (.inl (cy 5, 24, .inr (.inr (.inr (.inr f2)))))) (hmb : h mb = some (.inl (cy 5, 4, .inr (.inr (.inr (.inr g2)))))) (hR : qRo h f2 24) (hRB : qRo h g2 4) (ho : h o = some (.inl (cy 1, 1, .inr (.inl fo)))) (hfi : h fi = some (.inl (cy 1, 1024, .inr (.inl (fun _ => 0))))) (hre : h re = some (.inl (cy 0, 1024, .inl (fun _ => 0)))) (hrc : h rc = some (.inl (cy 0, 1024, .inl (fun _ => 0)))) (hso : h so = some (.inl (cy 0, 1024, .inl (fun _ => 0)))) (hot : h ot = some (.inl (cy 0, 1024, .inl (fun _ => 0)))) (hcn : h cn = some (.inl (cy 1, 1024, .inr (.inl (fun _ => 0))))) (hla : h la = some (.inl (cy 1, 1024, .inr (.inl (fun _ => 0))))) (n_so_rc : rc ≠ so) (n_ot_rc : rc ≠ ot) (n_rc_re : re ≠ rc) (n_ot_so : so ≠ ot) (n_so_re : re ≠ so) (n_ot_re : re ≠ ot) (n_la_cn : cn ≠ la) (n_cn_fi : fi ≠ cn) (n_la_fi : fi ≠ la) (n_ms_sl : ms_ ≠ sl) (n_mb_sl : mb ≠ sl) (hl : lv_has ls 8 [(4, .int 1), (3, .ref o), (2, .ref y), (1, .ref x), (0, .ref b)]) (kend : ∀ (ls : Array Slot) (H : Heap) (locs : List Loc) (ce sl : Nat), ce ≤ cells + 20 → sl ≤ slots + 200 → va_S (qA N0) s.heap H locs → lv_has ls 8 [(4, .int 1), (0, .ref b)] → W p l e (qR 2048 84000 mc ms) s m #[Value.ref b] below meth c H locs ce sl Q (F0 m 2940 ls [])) : W p l e (qR 2048 84000 mc ms) s m #[Value.ref b] below meth c H locs cells slots Q (F0 m 2816 ls []) := by
  have hx := C.1
  have hb := C.2.1
  refine lv_aload_n hx hb dL_law_2816 rfl (lv_at hl 3 rfl) ?_
  refine lv_aload_n hx hb dL_law_2817 rfl (lv_at hl 4 rfl) ?_
  refine lv_iload hx hb dL_law_2818 (lv_at hl 0 rfl) ?_
  refine lv_iconst (v := 1) hx hb dL_law_2820 (by decide) ?_
  refine lv_iadd hx hb dL_law_2821 ?_
  refine va_sld hx hb hX hbl0 hbA hS (by unfold vp_in; decide) dL_law_2822 ?_
  refine lv_topi (fun s1 es1 => ?_)
  refine lv_aload_n hx hb dL_law_2823 rfl (lv_at hl 4 rfl) ?_
  refine lv_iload hx hb dL_law_2824 (lv_at hl 0 rfl) ?_
  refine lv_iconst (v := 2) hx hb dL_law_2826 (by decide) ?_
  refine lv_iadd hx hb dL_law_2827 ?_
  refine va_sld hx hb hX hbl0 hbA hS (by unfold vp_in; decide) dL_law_2828 ?_
  refine lv_topi (fun s2 es2 => ?_)
  refine lv_aload_n hx hb dL_law_2829 rfl (lv_at hl 1 rfl) ?_
  refine q_callSW (rest := []) C (c_L_freeze_0 l D cy N0 (h) x sl bl kr vr hm 0 0 ed f g s1 s2 o hT hsl hF hbl hB) kwL_freeze g1059 g1060 hP hS (by omega) hl.1 rfl (by decide) (by omega) dL_law_2830 (fun v hh1 H locs hq hP hS => ?_)
  obtain ⟨rfl, hq⟩ := hq
  rcases hq with ⟨rfl, gA⟩ | ⟨rfl, gA⟩
  · refine lv_istore (lv' := [(5, .int 1), (4, .int 1), (3, .ref o), (2, .ref y), (1, .ref x), (0, .ref b)]) hx hb dL_law_2833 hl (by decide) rfl (fun ls hl => ?_)
    refine lv_aload_n hx hb dL_law_2835 rfl (lv_at hl 3 rfl) ?_
    refine lv_aload_n hx hb dL_law_2836 rfl (lv_at hl 5 rfl) ?_
    refine lv_iload hx hb dL_law_2837 (lv_at hl 1 rfl) ?_
    refine lv_iconst (v := 1) hx hb dL_law_2839 (by decide) ?_
    refine lv_iadd hx hb dL_law_2840 ?_
    refine va_sld hx hb hX hbl0 hbA hS (by unfold vp_in; decide) dL_law_2841 ?_
    rw [← es1]
    refine lv_aload_n hx hb dL_law_2842 rfl (lv_at hl 5 rfl) ?_
    refine lv_iload hx hb dL_law_2843 (lv_at hl 1 rfl) ?_
    refine lv_iconst (v := 2) hx hb dL_law_2845 (by decide) ?_
    refine lv_iadd hx hb dL_law_2846 ?_
    refine va_sld hx hb hX hbl0 hbA hS (by unfold vp_in; decide) dL_law_2847 ?_
    rw [← es2]
    refine q_callV (rest := []) C (c_X8_freeze_0 l D cy N0 (h) y ms_ mb mw od pt fi re rc rs so ot cn la ro gr 0 0 0 0 0 (nI 1) (nI 1) 0 f2 g2 s1 s2 hY hms hmb hR hRB) kX8_freeze g1476 g1477 rfl g1478 g4 hP hS hY (by first | decide | omega) hl.1 rfl (by decide) (by first | decide | omega) dL_law_2848 (fun q ce E h' H1 locs1 hE => hE.elim) (fun v hh2 H locs hq hP hS => ?_)
    obtain ⟨cd', rfl, rfl, hq⟩ := hq
    rcases hq with ⟨gB, rfl⟩ | ⟨gB, rfl⟩
    · replace hT := (qs_ne (h := h) (a := y) (o := (.inr (8, [.ref ms_, .ref mb, .ref mw, .int gr, .int 1, .int 0, .int 0, .ref od, .ref pt, .int 0, .int 0, .ref fi, .ref re, .int (nI 1), .ref rc, .ref rs, .ref so, .ref ot, .ref cn, .ref la, .int (nI 1), .ref ro, .int 0]))) (fun q => by subst q; have := hT.symm.trans hY; first | cases this | simp at this)).trans hT
      replace hsl := (qs_ne (h := h) (a := y) (o := (.inr (8, [.ref ms_, .ref mb, .ref mw, .int gr, .int 1, .int 0, .int 0, .ref od, .ref pt, .int 0, .int 0, .ref fi, .ref re, .int (nI 1), .ref rc, .ref rs, .ref so, .ref ot, .ref cn, .ref la, .int (nI 1), .ref ro, .int 0]))) (fun q => by subst q; have := hsl.symm.trans hY; first | cases this | simp at this)).trans hsl
      replace ho := (qs_ne (h := h) (a := y) (o := (.inr (8, [.ref ms_, .ref mb, .ref mw, .int gr, .int 1, .int 0, .int 0, .ref od, .ref pt, .int 0, .int 0, .ref fi, .ref re, .int (nI 1), .ref rc, .ref rs, .ref so, .ref ot, .ref cn, .ref la, .int (nI 1), .ref ro, .int 0]))) (fun q => by subst q; have := ho.symm.trans hY; first | cases this | simp at this)).trans ho
      replace hY : (qs h y (.inr (8, [.ref ms_, .ref mb, .ref mw, .int gr, .int 1, .int 0, .int 0, .ref od, .ref pt, .int 0, .int 0, .ref fi, .ref re, .int (nI 1), .ref rc, .ref rs, .ref so, .ref ot, .ref cn, .ref la, .int (nI 1), .ref ro, .int 0]))) y = some (.inr (8, [.ref ms_, .ref mb, .ref mw, .int gr, .int 1, .int 0, .int 0, .ref od, .ref pt, .int 0, .int 0, .ref fi, .ref re, .int (nI 1), .ref rc, .ref rs, .ref so, .ref ot, .ref cn, .ref la, .int (nI 1), .ref ro, .int 0])) := qs_self
      refine lv_istore (lv' := [(6, .int 0), (5, .int 1), (4, .int 1), (3, .ref o), (2, .ref y), (1, .ref x), (0, .ref b)]) hx hb dL_law_2851 hl (by decide) rfl (fun ls hl => ?_)
      refine lv_aload_n hx hb dL_law_2853 rfl (lv_at hl 4 rfl) ?_
      refine q_callV (rest := []) C (c_X8_thrown l D cy N0 (qs h y (.inr (8, [.ref ms_, .ref mb, .ref mw, .int gr, .int 1, .int 0, .int 0, .ref od, .ref pt, .int 0, .int 0, .ref fi, .ref re, .int (nI 1), .ref rc, .ref rs, .ref so, .ref ot, .ref cn, .ref la, .int (nI 1), .ref ro, .int 0]))) y ms_ mb mw od pt fi re rc rs so ot cn la ro gr 1 0 0 0 0 (nI 1) (nI 1) 0 hY) kX8_thrown g1238 g1239 rfl g1240 g4 hP hS hY (by first | decide | omega) hl.1 rfl (by decide) (by first | decide | omega) dL_law_2854 (fun q ce E h' H1 locs1 hE => hE.elim) (fun v hh3 H locs hq hP hS => ?_)
      obtain ⟨rfl, rfl⟩ := hq
      refine lv_iload hx hb dL_law_2857 (lv_at hl 1 rfl) ?_
      refine lv_icmp_eq (tgt := 2864) hx hb dL_law_2859 (by decide) (fun _ => ?_) (fun c9 => absurd rfl c9)
      refine lv_iload hx hb dL_law_2864 (lv_at hl 1 rfl) ?_
      refine lv_if_ne (tgt := 2881) hx hb dL_law_2866 (by decide) (fun _ => ?_) (fun c => absurd c (by decide))
      refine lv_goto (tgt := 2940) hx hb dL_law_2881 (by decide) ?_
      exact kend ls H locs _ _ (by omega) (by omega) hS (lv_sub hl [2, 6] rfl)
    · exact absurd gB gA
  · refine lv_istore (lv' := [(5, .int 2), (4, .int 1), (3, .ref o), (2, .ref y), (1, .ref x), (0, .ref b)]) hx hb dL_law_2833 hl (by decide) rfl (fun ls hl => ?_)
    refine lv_aload_n hx hb dL_law_2835 rfl (lv_at hl 3 rfl) ?_
    refine lv_aload_n hx hb dL_law_2836 rfl (lv_at hl 5 rfl) ?_
    refine lv_iload hx hb dL_law_2837 (lv_at hl 1 rfl) ?_
    refine lv_iconst (v := 1) hx hb dL_law_2839 (by decide) ?_
    refine lv_iadd hx hb dL_law_2840 ?_
    refine va_sld hx hb hX hbl0 hbA hS (by unfold vp_in; decide) dL_law_2841 ?_
    rw [← es1]
    refine lv_aload_n hx hb dL_law_2842 rfl (lv_at hl 5 rfl) ?_
    refine lv_iload hx hb dL_law_2843 (lv_at hl 1 rfl) ?_
    refine lv_iconst (v := 2) hx hb dL_law_2845 (by decide) ?_
    refine lv_iadd hx hb dL_law_2846 ?_
    refine va_sld hx hb hX hbl0 hbA hS (by unfold vp_in; decide) dL_law_2847 ?_
    rw [← es2]
    refine q_callV (rest := []) C (c_X8_freeze_0 l D cy N0 (h) y ms_ mb mw od pt fi re rc rs so ot cn la ro gr 0 0 0 0 0 (nI 1) (nI 1) 0 f2 g2 s1 s2 hY hms hmb hR hRB) kX8_freeze g1476 g1477 rfl g1478 g4 hP hS hY (by first | decide | omega) hl.1 rfl (by decide) (by first | decide | omega) dL_law_2848 (fun q ce E h' H1 locs1 hE => hE.elim) (fun v hh4 H locs hq hP hS => ?_)
    obtain ⟨cd', rfl, rfl, hq⟩ := hq
    rcases hq with ⟨gB, rfl⟩ | ⟨gB, rfl⟩
    · exact absurd gA gB
    · replace hT := (qs_ne (h := h) (a := y) (o := (.inr (8, [.ref ms_, .ref mb, .ref mw, .int gr, .int 2, .int 0, .int 0, .ref od, .ref pt, .int 0, .int 0, .ref fi, .ref re, .int (nI 1), .ref rc, .ref rs, .ref so, .ref ot, .ref cn, .ref la, .int (nI 1), .ref ro, .int 0]))) (fun q => by subst q; have := hT.symm.trans hY; first | cases this | simp at this)).trans hT
      replace hsl := (qs_ne (h := h) (a := y) (o := (.inr (8, [.ref ms_, .ref mb, .ref mw, .int gr, .int 2, .int 0, .int 0, .ref od, .ref pt, .int 0, .int 0, .ref fi, .ref re, .int (nI 1), .ref rc, .ref rs, .ref so, .ref ot, .ref cn, .ref la, .int (nI 1), .ref ro, .int 0]))) (fun q => by subst q; have := hsl.symm.trans hY; first | cases this | simp at this)).trans hsl
      replace ho := (qs_ne (h := h) (a := y) (o := (.inr (8, [.ref ms_, .ref mb, .ref mw, .int gr, .int 2, .int 0, .int 0, .ref od, .ref pt, .int 0, .int 0, .ref fi, .ref re, .int (nI 1), .ref rc, .ref rs, .ref so, .ref ot, .ref cn, .ref la, .int (nI 1), .ref ro, .int 0]))) (fun q => by subst q; have := ho.symm.trans hY; first | cases this | simp at this)).trans ho
      replace hY : (qs h y (.inr (8, [.ref ms_, .ref mb, .ref mw, .int gr, .int 2, .int 0, .int 0, .ref od, .ref pt, .int 0, .int 0, .ref fi, .ref re, .int (nI 1), .ref rc, .ref rs, .ref so, .ref ot, .ref cn, .ref la, .int (nI 1), .ref ro, .int 0]))) y = some (.inr (8, [.ref ms_, .ref mb, .ref mw, .int gr, .int 2, .int 0, .int 0, .ref od, .ref pt, .int 0, .int 0, .ref fi, .ref re, .int (nI 1), .ref rc, .ref rs, .ref so, .ref ot, .ref cn, .ref la, .int (nI 1), .ref ro, .int 0])) := qs_self
      refine lv_istore (lv' := [(6, .int 0), (5, .int 2), (4, .int 1), (3, .ref o), (2, .ref y), (1, .ref x), (0, .ref b)]) hx hb dL_law_2851 hl (by decide) rfl (fun ls hl => ?_)
      refine lv_aload_n hx hb dL_law_2853 rfl (lv_at hl 4 rfl) ?_
      refine q_callV (rest := []) C (c_X8_thrown l D cy N0 (qs h y (.inr (8, [.ref ms_, .ref mb, .ref mw, .int gr, .int 2, .int 0, .int 0, .ref od, .ref pt, .int 0, .int 0, .ref fi, .ref re, .int (nI 1), .ref rc, .ref rs, .ref so, .ref ot, .ref cn, .ref la, .int (nI 1), .ref ro, .int 0]))) y ms_ mb mw od pt fi re rc rs so ot cn la ro gr 2 0 0 0 0 (nI 1) (nI 1) 0 hY) kX8_thrown g1238 g1239 rfl g1240 g4 hP hS hY (by first | decide | omega) hl.1 rfl (by decide) (by first | decide | omega) dL_law_2854 (fun q ce E h' H1 locs1 hE => hE.elim) (fun v hh5 H locs hq hP hS => ?_)
      obtain ⟨rfl, rfl⟩ := hq
      refine lv_iload hx hb dL_law_2857 (lv_at hl 1 rfl) ?_
      refine lv_icmp_eq (tgt := 2864) hx hb dL_law_2859 (by decide) (fun _ => ?_) (fun c9 => absurd rfl c9)
      refine lv_iload hx hb dL_law_2864 (lv_at hl 1 rfl) ?_
      refine lv_if_ne (tgt := 2881) hx hb dL_law_2866 (by decide) (fun _ => ?_) (fun c => absurd c (by decide))
      refine lv_goto (tgt := 2940) hx hb dL_law_2881 (by decide) ?_
      exact kend ls H locs _ _ (by omega) (by omega) hS (lv_sub hl [2, 6] rfl)
