theorem dL_law_790 : decode cL_law 790 = .ok (.aload_n 1, 1) := by decide +kernel
theorem dL_law_791 : decode cL_law 791 = .ok (.aload_n 0, 1) := by decide +kernel
theorem dL_law_792 : decode cL_law 792 = .ok (.iload 4, 2) := by decide +kernel
theorem dL_law_794 : decode cL_law 794 = .ok (.iconst 1, 1) := by decide +kernel
theorem dL_law_795 : decode cL_law 795 = .ok (.iadd, 1) := by decide +kernel
theorem dL_law_796 : decode cL_law 796 = .ok (.iaload, 1) := by decide +kernel
theorem dL_law_797 : decode cL_law 797 = .ok (.aload_n 0, 1) := by decide +kernel
theorem dL_law_798 : decode cL_law 798 = .ok (.iload 4, 2) := by decide +kernel
theorem dL_law_800 : decode cL_law 800 = .ok (.iconst 2, 1) := by decide +kernel
theorem dL_law_801 : decode cL_law 801 = .ok (.iadd, 1) := by decide +kernel
theorem dL_law_802 : decode cL_law 802 = .ok (.iaload, 1) := by decide +kernel
theorem dL_law_803 : decode cL_law 803 = .ok (.aload_n 0, 1) := by decide +kernel
theorem dL_law_804 : decode cL_law 804 = .ok (.iload 4, 2) := by decide +kernel
theorem dL_law_806 : decode cL_law 806 = .ok (.iconst 3, 1) := by decide +kernel
theorem dL_law_807 : decode cL_law 807 = .ok (.iadd, 1) := by decide +kernel
theorem dL_law_808 : decode cL_law 808 = .ok (.iaload, 1) := by decide +kernel
theorem dL_law_809 : decode cL_law 809 = .ok (.aload_n 0, 1) := by decide +kernel
theorem dL_law_810 : decode cL_law 810 = .ok (.iload 4, 2) := by decide +kernel
theorem dL_law_812 : decode cL_law 812 = .ok (.iconst 4, 1) := by decide +kernel
theorem dL_law_813 : decode cL_law 813 = .ok (.iadd, 1) := by decide +kernel
theorem dL_law_814 : decode cL_law 814 = .ok (.iaload, 1) := by decide +kernel
theorem dL_law_815 : decode cL_law 815 = .ok (.ifCond .eq 7, 3) := by decide +kernel
theorem dL_law_818 : decode cL_law 818 = .ok (.iconst 1, 1) := by decide +kernel
theorem dL_law_819 : decode cL_law 819 = .ok (.goto 4, 3) := by decide +kernel
theorem dL_law_822 : decode cL_law 822 = .ok (.iconst 0, 1) := by decide +kernel
theorem dL_law_823 : decode cL_law 823 = .ok (.aload_n 3, 1) := by decide +kernel
theorem dL_law_824 : decode cL_law 824 = .ok (.invokestatic 179, 3) := by decide +kernel
theorem dL_law_827 : decode cL_law 827 = .ok (.istore 5, 2) := by decide +kernel
theorem dL_law_829 : decode cL_law 829 = .ok (.aload_n 2, 1) := by decide +kernel
theorem dL_law_830 : decode cL_law 830 = .ok (.aload_n 0, 1) := by decide +kernel
theorem dL_law_831 : decode cL_law 831 = .ok (.iload 4, 2) := by decide +kernel
theorem dL_law_833 : decode cL_law 833 = .ok (.iconst 1, 1) := by decide +kernel
theorem dL_law_834 : decode cL_law 834 = .ok (.iadd, 1) := by decide +kernel
theorem dL_law_835 : decode cL_law 835 = .ok (.iaload, 1) := by decide +kernel
theorem dL_law_836 : decode cL_law 836 = .ok (.aload_n 0, 1) := by decide +kernel
theorem dL_law_837 : decode cL_law 837 = .ok (.iload 4, 2) := by decide +kernel
theorem dL_law_839 : decode cL_law 839 = .ok (.iconst 2, 1) := by decide +kernel
theorem dL_law_840 : decode cL_law 840 = .ok (.iadd, 1) := by decide +kernel
theorem dL_law_841 : decode cL_law 841 = .ok (.iaload, 1) := by decide +kernel
theorem dL_law_842 : decode cL_law 842 = .ok (.aload_n 0, 1) := by decide +kernel
theorem dL_law_843 : decode cL_law 843 = .ok (.iload 4, 2) := by decide +kernel
theorem dL_law_845 : decode cL_law 845 = .ok (.iconst 3, 1) := by decide +kernel
theorem dL_law_846 : decode cL_law 846 = .ok (.iadd, 1) := by decide +kernel
theorem dL_law_847 : decode cL_law 847 = .ok (.iaload, 1) := by decide +kernel
theorem dL_law_848 : decode cL_law 848 = .ok (.aload_n 0, 1) := by decide +kernel
theorem dL_law_849 : decode cL_law 849 = .ok (.iload 4, 2) := by decide +kernel
theorem dL_law_851 : decode cL_law 851 = .ok (.iconst 4, 1) := by decide +kernel
theorem dL_law_852 : decode cL_law 852 = .ok (.iadd, 1) := by decide +kernel
theorem dL_law_853 : decode cL_law 853 = .ok (.iaload, 1) := by decide +kernel
theorem dL_law_854 : decode cL_law 854 = .ok (.ifCond .eq 7, 3) := by decide +kernel
theorem dL_law_857 : decode cL_law 857 = .ok (.iconst 1, 1) := by decide +kernel
theorem dL_law_858 : decode cL_law 858 = .ok (.goto 4, 3) := by decide +kernel
theorem dL_law_861 : decode cL_law 861 = .ok (.iconst 0, 1) := by decide +kernel
theorem dL_law_862 : decode cL_law 862 = .ok (.invokevirtual 182, 3) := by decide +kernel
theorem dL_law_865 : decode cL_law 865 = .ok (.istore 6, 2) := by decide +kernel
theorem dL_law_867 : decode cL_law 867 = .ok (.aload_n 2, 1) := by decide +kernel
theorem dL_law_868 : decode cL_law 868 = .ok (.invokevirtual 147, 3) := by decide +kernel
theorem dL_law_871 : decode cL_law 871 = .ok (.iload 5, 2) := by decide +kernel
theorem dL_law_873 : decode cL_law 873 = .ok (.if_icmp .eq 5, 3) := by decide +kernel
theorem dL_law_878 : decode cL_law 878 = .ok (.iload 5, 2) := by decide +kernel
theorem dL_law_880 : decode cL_law 880 = .ok (.ifCond .ne 15, 3) := by decide +kernel
theorem dL_law_895 : decode cL_law 895 = .ok (.goto 2045, 3) := by decide +kernel
set_option maxRecDepth 100000 in
set_option maxHeartbeats 4000000 in
theorem lc_drop {p : Program} {l : Launch} {e : Env} {mc ms : Nat} {s : State} {m : MethodId} {below : List Frame} {meth : Method} {c : Code} {H : Heap} {locs : List Loc} {cells slots : Nat} {Q : State → Prop} {rt0 : Option FieldType} {nm0 : String} {D : va_G} {cy : Nat → ClassId} {N0 : Nat} {tb : List ExceptionTableEntry} {h : qH} {ls : Array Slot} {b : Nat} {xs : Nat → Int32} {x sl bl kr vr : Nat} {hm ed : Int32} {f g : Nat → Option Nat} {y ms_ mb mw od pt fi re rc rs so ot cn la ro : Nat} {gr : Int32} {f2 g2 : Nat → Option Nat} {o : Nat} {fo : Nat → Int64} (C : qX p l s m #[Value.ref b] meth c RL cL_law 8 rt0 nm0 D cy N0 tb) (hX : va_X b 8 xs s s.heap) (hbl0 : b < s.heap.size) (hbA : ¬ qA N0 b) (hP : qP D N0 h H) (hS : va_S (qA N0) s.heap H locs) (hcm : cells + 20 ≤ mc) (hsm : slots + 200 ≤ ms) (hT : h x = some (.inr (6, [.int hm, .ref sl, .ref bl, .ref kr, .ref vr, .int 0, .int 0, .int ed]))) (hsl : h sl = some (.inl (cy 3, 24, .inr (.inr (.inr (.inr f)))))) (hF : ∀ i, i < 24 → f i = none) (hbl : h bl = some (.inl (cy 2, 4, .inr (.inr (.inr (.inr g)))))) (hB : ∀ j, j < 4 → ∃ (b rw : Nat) (kd ln e2 : Int32) (rt : Option Nat), qBd h g j b rw 0 kd ln e2 rt) (hY : h y = some (.inr (8, [.ref ms_, .ref mb, .ref mw, .int gr, .int 0, .int 0, .int 0, .ref od, .ref pt, .int 0, .int 0, .ref fi, .ref re, .int (nI 1), .ref rc, .ref rs, .ref so, .ref ot, .ref cn, .ref la, .int (nI 1), .ref ro, .int 0]))) (hms : h ms_ = some (.inl (cy 5, 24, .inr (.inr (.inr (.inr f2)))))) (hmb : h mb = some (.inl (cy 5, 4, .inr (.inr (.inr (.inr g2)))))) (hR : qRo h f2 24) (hRB : qRo h g2 4) (ho : h o = some (.inl (cy 1, 1, .inr (.inl fo)))) (hfi : h fi = some (.inl (cy 1, 1024, .inr (.inl (fun _ => 0))))) (hre : h re = some (.inl (cy 0, 1024, .inl (fun _ => 0)))) (hrc : h rc = some (.inl (cy 0, 1024, .inl (fun _ => 0)))) (hso : h so = some (.inl (cy 0, 1024, .inl (fun _ => 0)))) (hot : h ot = some (.inl (cy 0, 1024, .inl (fun _ => 0)))) (hcn : h cn = some (.inl (cy 1, 1024, .inr (.inl (fun _ => 0))))) (hla : h la = some (.inl (cy 1, 1024, .inr (.inl (fun _ => 0))))) (n_so_rc : rc ≠ so) (n_ot_rc : rc ≠ ot) (n_rc_re : re ≠ rc) (n_ot_so : so ≠ ot) (n_so_re : re ≠ so) (n_ot_re : re ≠ ot) (n_la_cn : cn ≠ la) (n_cn_fi : fi ≠ cn) (n_la_fi : fi ≠ la) (n_ms_sl : ms_ ≠ sl) (n_mb_sl : mb ≠ sl) (hl : lv_has ls 8 [(4, .int 1), (3, .ref o), (2, .ref y), (1, .ref x), (0, .ref b)]) (kend : ∀ (ls : Array Slot) (H : Heap) (locs : List Loc) (ce sl : Nat), ce ≤ cells + 20 → sl ≤ slots + 200 → va_S (qA N0) s.heap H locs → lv_has ls 8 [(4, .int 1), (0, .ref b)] → W p l e (qR 2048 84000 mc ms) s m #[Value.ref b] below meth c H locs ce sl Q (F0 m 2940 ls [])) : W p l e (qR 2048 84000 mc ms) s m #[Value.ref b] below meth c H locs cells slots Q (F0 m 790 ls []) := by
  have hx := C.1
  have hb := C.2.1
  refine lv_aload_n hx hb dL_law_790 rfl (lv_at hl 3 rfl) ?_
  refine lv_aload_n hx hb dL_law_791 rfl (lv_at hl 4 rfl) ?_
  refine lv_iload hx hb dL_law_792 (lv_at hl 0 rfl) ?_
  refine lv_iconst (v := 1) hx hb dL_law_794 (by decide) ?_
  refine lv_iadd hx hb dL_law_795 ?_
  refine va_sld hx hb hX hbl0 hbA hS (by unfold vp_in; decide) dL_law_796 ?_
  refine lv_topi (fun s1 es1 => ?_)
  refine lv_aload_n hx hb dL_law_797 rfl (lv_at hl 4 rfl) ?_
  refine lv_iload hx hb dL_law_798 (lv_at hl 0 rfl) ?_
  refine lv_iconst (v := 2) hx hb dL_law_800 (by decide) ?_
  refine lv_iadd hx hb dL_law_801 ?_
  refine va_sld hx hb hX hbl0 hbA hS (by unfold vp_in; decide) dL_law_802 ?_
  refine lv_topi (fun s2 es2 => ?_)
  refine lv_aload_n hx hb dL_law_803 rfl (lv_at hl 4 rfl) ?_
  refine lv_iload hx hb dL_law_804 (lv_at hl 0 rfl) ?_
  refine lv_iconst (v := 3) hx hb dL_law_806 (by decide) ?_
  refine lv_iadd hx hb dL_law_807 ?_
  refine va_sld hx hb hX hbl0 hbA hS (by unfold vp_in; decide) dL_law_808 ?_
  refine lv_topi (fun s3 es3 => ?_)
  refine lv_aload_n hx hb dL_law_809 rfl (lv_at hl 4 rfl) ?_
  refine lv_iload hx hb dL_law_810 (lv_at hl 0 rfl) ?_
  refine lv_iconst (v := 4) hx hb dL_law_812 (by decide) ?_
  refine lv_iadd hx hb dL_law_813 ?_
  refine va_sld hx hb hX hbl0 hbA hS (by unfold vp_in; decide) dL_law_814 ?_
  refine lv_topi (fun s4 es4 => ?_)
  refine lv_if_eq (tgt := 822) hx hb dL_law_815 (by decide) (fun c815 => ?_) (fun c815 => ?_)
  · refine lv_iconst (v := 0) hx hb dL_law_822 (by decide) ?_
    refine lv_aload_n hx hb dL_law_823 rfl (lv_at hl 1 rfl) ?_
    refine q_callSW (rest := []) C (c_L_drop_0 l D cy N0 (h) x sl bl kr vr hm 0 0 ed f s1 s2 s3 0 o hT hsl hF) kwL_drop g717 g718 hP hS (by omega) hl.1 rfl (by decide) (by omega) dL_law_824 (fun v hh1 H locs hq hP hS => ?_)
    obtain ⟨rfl, hq⟩ := hq
    rcases hq with ⟨rfl, gA⟩ | ⟨rfl, gA⟩
    · refine lv_istore (lv' := [(5, .int 1), (4, .int 1), (3, .ref o), (2, .ref y), (1, .ref x), (0, .ref b)]) hx hb dL_law_827 hl (by decide) rfl (fun ls hl => ?_)
      refine lv_aload_n hx hb dL_law_829 rfl (lv_at hl 3 rfl) ?_
      refine lv_aload_n hx hb dL_law_830 rfl (lv_at hl 5 rfl) ?_
      refine lv_iload hx hb dL_law_831 (lv_at hl 1 rfl) ?_
      refine lv_iconst (v := 1) hx hb dL_law_833 (by decide) ?_
      refine lv_iadd hx hb dL_law_834 ?_
      refine va_sld hx hb hX hbl0 hbA hS (by unfold vp_in; decide) dL_law_835 ?_
      rw [← es1]
      refine lv_aload_n hx hb dL_law_836 rfl (lv_at hl 5 rfl) ?_
      refine lv_iload hx hb dL_law_837 (lv_at hl 1 rfl) ?_
      refine lv_iconst (v := 2) hx hb dL_law_839 (by decide) ?_
      refine lv_iadd hx hb dL_law_840 ?_
      refine va_sld hx hb hX hbl0 hbA hS (by unfold vp_in; decide) dL_law_841 ?_
      rw [← es2]
      refine lv_aload_n hx hb dL_law_842 rfl (lv_at hl 5 rfl) ?_
      refine lv_iload hx hb dL_law_843 (lv_at hl 1 rfl) ?_
      refine lv_iconst (v := 3) hx hb dL_law_845 (by decide) ?_
      refine lv_iadd hx hb dL_law_846 ?_
      refine va_sld hx hb hX hbl0 hbA hS (by unfold vp_in; decide) dL_law_847 ?_
      rw [← es3]
      refine lv_aload_n hx hb dL_law_848 rfl (lv_at hl 5 rfl) ?_
      refine lv_iload hx hb dL_law_849 (lv_at hl 1 rfl) ?_
      refine lv_iconst (v := 4) hx hb dL_law_851 (by decide) ?_
      refine lv_iadd hx hb dL_law_852 ?_
      refine va_sld hx hb hX hbl0 hbA hS (by unfold vp_in; decide) dL_law_853 ?_
      rw [← es4]
      refine lv_if_eq (tgt := 861) hx hb dL_law_854 (by decide) (fun c854 => ?_) (fun c854 => ?_)
      · refine lv_iconst (v := 0) hx hb dL_law_861 (by decide) ?_
        refine q_callV (rest := []) C (c_X8_drop_0 l D cy N0 (h) y ms_ mb mw od pt fi re rc rs so ot cn la ro gr 0 0 0 0 0 (nI 1) (nI 1) 0 f2 g2 s1 s2 s3 0 hY hms hmb hR hRB) kX8_drop g1378 g1379 rfl g1380 g4 hP hS hY (by first | decide | omega) hl.1 rfl (by decide) (by first | decide | omega) dL_law_862 (fun q ce E h' H1 locs1 hE => hE.elim) (fun v hh2 H locs hq hP hS => ?_)
        obtain ⟨cd', rfl, rfl, hq⟩ := hq
        rcases hq with ⟨gB, rfl⟩ | ⟨gB, rfl⟩
        · replace hT := (qs_ne (h := h) (a := y) (o := (.inr (8, [.ref ms_, .ref mb, .ref mw, .int gr, .int 1, .int 0, .int 0, .ref od, .ref pt, .int 0, .int 0, .ref fi, .ref re, .int (nI 1), .ref rc, .ref rs, .ref so, .ref ot, .ref cn, .ref la, .int (nI 1), .ref ro, .int 0]))) (fun q => by subst q; have := hT.symm.trans hY; first | cases this | simp at this)).trans hT
          replace hsl := (qs_ne (h := h) (a := y) (o := (.inr (8, [.ref ms_, .ref mb, .ref mw, .int gr, .int 1, .int 0, .int 0, .ref od, .ref pt, .int 0, .int 0, .ref fi, .ref re, .int (nI 1), .ref rc, .ref rs, .ref so, .ref ot, .ref cn, .ref la, .int (nI 1), .ref ro, .int 0]))) (fun q => by subst q; have := hsl.symm.trans hY; first | cases this | simp at this)).trans hsl
          replace ho := (qs_ne (h := h) (a := y) (o := (.inr (8, [.ref ms_, .ref mb, .ref mw, .int gr, .int 1, .int 0, .int 0, .ref od, .ref pt, .int 0, .int 0, .ref fi, .ref re, .int (nI 1), .ref rc, .ref rs, .ref so, .ref ot, .ref cn, .ref la, .int (nI 1), .ref ro, .int 0]))) (fun q => by subst q; have := ho.symm.trans hY; first | cases this | simp at this)).trans ho
          replace hY : (qs h y (.inr (8, [.ref ms_, .ref mb, .ref mw, .int gr, .int 1, .int 0, .int 0, .ref od, .ref pt, .int 0, .int 0, .ref fi, .ref re, .int (nI 1), .ref rc, .ref rs, .ref so, .ref ot, .ref cn, .ref la, .int (nI 1), .ref ro, .int 0]))) y = some (.inr (8, [.ref ms_, .ref mb, .ref mw, .int gr, .int 1, .int 0, .int 0, .ref od, .ref pt, .int 0, .int 0, .ref fi, .ref re, .int (nI 1), .ref rc, .ref rs, .ref so, .ref ot, .ref cn, .ref la, .int (nI 1), .ref ro, .int 0])) := qs_self
          refine lv_istore (lv' := [(6, .int 0), (5, .int 1), (4, .int 1), (3, .ref o), (2, .ref y), (1, .ref x), (0, .ref b)]) hx hb dL_law_865 hl (by decide) rfl (fun ls hl => ?_)
          refine lv_aload_n hx hb dL_law_867 rfl (lv_at hl 4 rfl) ?_
          refine q_callV (rest := []) C (c_X8_thrown l D cy N0 (qs h y (.inr (8, [.ref ms_, .ref mb, .ref mw, .int gr, .int 1, .int 0, .int 0, .ref od, .ref pt, .int 0, .int 0, .ref fi, .ref re, .int (nI 1), .ref rc, .ref rs, .ref so, .ref ot, .ref cn, .ref la, .int (nI 1), .ref ro, .int 0]))) y ms_ mb mw od pt fi re rc rs so ot cn la ro gr 1 0 0 0 0 (nI 1) (nI 1) 0 hY) kX8_thrown g1238 g1239 rfl g1240 g4 hP hS hY (by first | decide | omega) hl.1 rfl (by decide) (by first | decide | omega) dL_law_868 (fun q ce E h' H1 locs1 hE => hE.elim) (fun v hh3 H locs hq hP hS => ?_)
          obtain ⟨rfl, rfl⟩ := hq
          refine lv_iload hx hb dL_law_871 (lv_at hl 1 rfl) ?_
          refine lv_icmp_eq (tgt := 878) hx hb dL_law_873 (by decide) (fun _ => ?_) (fun c9 => absurd rfl c9)
          refine lv_iload hx hb dL_law_878 (lv_at hl 1 rfl) ?_
          refine lv_if_ne (tgt := 895) hx hb dL_law_880 (by decide) (fun _ => ?_) (fun c => absurd c (by decide))
          refine lv_goto (tgt := 2940) hx hb dL_law_895 (by decide) ?_
          exact kend ls H locs _ _ (by omega) (by omega) hS (lv_sub hl [2, 6] rfl)
        · exact absurd gB gA
      · refine lv_iconst (v := 1) hx hb dL_law_857 (by decide) ?_
        refine lv_goto (tgt := 862) hx hb dL_law_858 (by decide) ?_
        refine q_callV (rest := []) C (c_X8_drop_0 l D cy N0 (h) y ms_ mb mw od pt fi re rc rs so ot cn la ro gr 0 0 0 0 0 (nI 1) (nI 1) 0 f2 g2 s1 s2 s3 1 hY hms hmb hR hRB) kX8_drop g1378 g1379 rfl g1380 g4 hP hS hY (by first | decide | omega) hl.1 rfl (by decide) (by first | decide | omega) dL_law_862 (fun q ce E h' H1 locs1 hE => hE.elim) (fun v hh4 H locs hq hP hS => ?_)
        obtain ⟨cd', rfl, rfl, hq⟩ := hq
        rcases hq with ⟨gB, rfl⟩ | ⟨gB, rfl⟩
        · replace hT := (qs_ne (h := h) (a := y) (o := (.inr (8, [.ref ms_, .ref mb, .ref mw, .int gr, .int 1, .int 0, .int 0, .ref od, .ref pt, .int 0, .int 0, .ref fi, .ref re, .int (nI 1), .ref rc, .ref rs, .ref so, .ref ot, .ref cn, .ref la, .int (nI 1), .ref ro, .int 0]))) (fun q => by subst q; have := hT.symm.trans hY; first | cases this | simp at this)).trans hT
          replace hsl := (qs_ne (h := h) (a := y) (o := (.inr (8, [.ref ms_, .ref mb, .ref mw, .int gr, .int 1, .int 0, .int 0, .ref od, .ref pt, .int 0, .int 0, .ref fi, .ref re, .int (nI 1), .ref rc, .ref rs, .ref so, .ref ot, .ref cn, .ref la, .int (nI 1), .ref ro, .int 0]))) (fun q => by subst q; have := hsl.symm.trans hY; first | cases this | simp at this)).trans hsl
          replace ho := (qs_ne (h := h) (a := y) (o := (.inr (8, [.ref ms_, .ref mb, .ref mw, .int gr, .int 1, .int 0, .int 0, .ref od, .ref pt, .int 0, .int 0, .ref fi, .ref re, .int (nI 1), .ref rc, .ref rs, .ref so, .ref ot, .ref cn, .ref la, .int (nI 1), .ref ro, .int 0]))) (fun q => by subst q; have := ho.symm.trans hY; first | cases this | simp at this)).trans ho
          replace hY : (qs h y (.inr (8, [.ref ms_, .ref mb, .ref mw, .int gr, .int 1, .int 0, .int 0, .ref od, .ref pt, .int 0, .int 0, .ref fi, .ref re, .int (nI 1), .ref rc, .ref rs, .ref so, .ref ot, .ref cn, .ref la, .int (nI 1), .ref ro, .int 0]))) y = some (.inr (8, [.ref ms_, .ref mb, .ref mw, .int gr, .int 1, .int 0, .int 0, .ref od, .ref pt, .int 0, .int 0, .ref fi, .ref re, .int (nI 1), .ref rc, .ref rs, .ref so, .ref ot, .ref cn, .ref la, .int (nI 1), .ref ro, .int 0])) := qs_self
          refine lv_istore (lv' := [(6, .int 0), (5, .int 1), (4, .int 1), (3, .ref o), (2, .ref y), (1, .ref x), (0, .ref b)]) hx hb dL_law_865 hl (by decide) rfl (fun ls hl => ?_)
          refine lv_aload_n hx hb dL_law_867 rfl (lv_at hl 4 rfl) ?_
          refine q_callV (rest := []) C (c_X8_thrown l D cy N0 (qs h y (.inr (8, [.ref ms_, .ref mb, .ref mw, .int gr, .int 1, .int 0, .int 0, .ref od, .ref pt, .int 0, .int 0, .ref fi, .ref re, .int (nI 1), .ref rc, .ref rs, .ref so, .ref ot, .ref cn, .ref la, .int (nI 1), .ref ro, .int 0]))) y ms_ mb mw od pt fi re rc rs so ot cn la ro gr 1 0 0 0 0 (nI 1) (nI 1) 0 hY) kX8_thrown g1238 g1239 rfl g1240 g4 hP hS hY (by first | decide | omega) hl.1 rfl (by decide) (by first | decide | omega) dL_law_868 (fun q ce E h' H1 locs1 hE => hE.elim) (fun v hh5 H locs hq hP hS => ?_)
          obtain ⟨rfl, rfl⟩ := hq
          refine lv_iload hx hb dL_law_871 (lv_at hl 1 rfl) ?_
          refine lv_icmp_eq (tgt := 878) hx hb dL_law_873 (by decide) (fun _ => ?_) (fun c9 => absurd rfl c9)
          refine lv_iload hx hb dL_law_878 (lv_at hl 1 rfl) ?_
          refine lv_if_ne (tgt := 895) hx hb dL_law_880 (by decide) (fun _ => ?_) (fun c => absurd c (by decide))
          refine lv_goto (tgt := 2940) hx hb dL_law_895 (by decide) ?_
          exact kend ls H locs _ _ (by omega) (by omega) hS (lv_sub hl [2, 6] rfl)
        · exact absurd gB gA
    · refine lv_istore (lv' := [(5, .int 2), (4, .int 1), (3, .ref o), (2, .ref y), (1, .ref x), (0, .ref b)]) hx hb dL_law_827 hl (by decide) rfl (fun ls hl => ?_)
      refine lv_aload_n hx hb dL_law_829 rfl (lv_at hl 3 rfl) ?_
      refine lv_aload_n hx hb dL_law_830 rfl (lv_at hl 5 rfl) ?_
      refine lv_iload hx hb dL_law_831 (lv_at hl 1 rfl) ?_
      refine lv_iconst (v := 1) hx hb dL_law_833 (by decide) ?_
      refine lv_iadd hx hb dL_law_834 ?_
      refine va_sld hx hb hX hbl0 hbA hS (by unfold vp_in; decide) dL_law_835 ?_
      rw [← es1]
      refine lv_aload_n hx hb dL_law_836 rfl (lv_at hl 5 rfl) ?_
      refine lv_iload hx hb dL_law_837 (lv_at hl 1 rfl) ?_
      refine lv_iconst (v := 2) hx hb dL_law_839 (by decide) ?_
      refine lv_iadd hx hb dL_law_840 ?_
      refine va_sld hx hb hX hbl0 hbA hS (by unfold vp_in; decide) dL_law_841 ?_
      rw [← es2]
      refine lv_aload_n hx hb dL_law_842 rfl (lv_at hl 5 rfl) ?_
      refine lv_iload hx hb dL_law_843 (lv_at hl 1 rfl) ?_
      refine lv_iconst (v := 3) hx hb dL_law_845 (by decide) ?_
      refine lv_iadd hx hb dL_law_846 ?_
      refine va_sld hx hb hX hbl0 hbA hS (by unfold vp_in; decide) dL_law_847 ?_
      rw [← es3]
      refine lv_aload_n hx hb dL_law_848 rfl (lv_at hl 5 rfl) ?_
      refine lv_iload hx hb dL_law_849 (lv_at hl 1 rfl) ?_
      refine lv_iconst (v := 4) hx hb dL_law_851 (by decide) ?_
      refine lv_iadd hx hb dL_law_852 ?_
      refine va_sld hx hb hX hbl0 hbA hS (by unfold vp_in; decide) dL_law_853 ?_
      rw [← es4]
      refine lv_if_eq (tgt := 861) hx hb dL_law_854 (by decide) (fun c854 => ?_) (fun c854 => ?_)
      · refine lv_iconst (v := 0) hx hb dL_law_861 (by decide) ?_
        refine q_callV (rest := []) C (c_X8_drop_0 l D cy N0 (h) y ms_ mb mw od pt fi re rc rs so ot cn la ro gr 0 0 0 0 0 (nI 1) (nI 1) 0 f2 g2 s1 s2 s3 0 hY hms hmb hR hRB) kX8_drop g1378 g1379 rfl g1380 g4 hP hS hY (by first | decide | omega) hl.1 rfl (by decide) (by first | decide | omega) dL_law_862 (fun q ce E h' H1 locs1 hE => hE.elim) (fun v hh6 H locs hq hP hS => ?_)
        obtain ⟨cd', rfl, rfl, hq⟩ := hq
        rcases hq with ⟨gB, rfl⟩ | ⟨gB, rfl⟩
        · exact absurd gA gB
        · replace hT := (qs_ne (h := h) (a := y) (o := (.inr (8, [.ref ms_, .ref mb, .ref mw, .int gr, .int 2, .int 0, .int 0, .ref od, .ref pt, .int 0, .int 0, .ref fi, .ref re, .int (nI 1), .ref rc, .ref rs, .ref so, .ref ot, .ref cn, .ref la, .int (nI 1), .ref ro, .int 0]))) (fun q => by subst q; have := hT.symm.trans hY; first | cases this | simp at this)).trans hT
          replace hsl := (qs_ne (h := h) (a := y) (o := (.inr (8, [.ref ms_, .ref mb, .ref mw, .int gr, .int 2, .int 0, .int 0, .ref od, .ref pt, .int 0, .int 0, .ref fi, .ref re, .int (nI 1), .ref rc, .ref rs, .ref so, .ref ot, .ref cn, .ref la, .int (nI 1), .ref ro, .int 0]))) (fun q => by subst q; have := hsl.symm.trans hY; first | cases this | simp at this)).trans hsl
          replace ho := (qs_ne (h := h) (a := y) (o := (.inr (8, [.ref ms_, .ref mb, .ref mw, .int gr, .int 2, .int 0, .int 0, .ref od, .ref pt, .int 0, .int 0, .ref fi, .ref re, .int (nI 1), .ref rc, .ref rs, .ref so, .ref ot, .ref cn, .ref la, .int (nI 1), .ref ro, .int 0]))) (fun q => by subst q; have := ho.symm.trans hY; first | cases this | simp at this)).trans ho
          replace hY : (qs h y (.inr (8, [.ref ms_, .ref mb, .ref mw, .int gr, .int 2, .int 0, .int 0, .ref od, .ref pt, .int 0, .int 0, .ref fi, .ref re, .int (nI 1), .ref rc, .ref rs, .ref so, .ref ot, .ref cn, .ref la, .int (nI 1), .ref ro, .int 0]))) y = some (.inr (8, [.ref ms_, .ref mb, .ref mw, .int gr, .int 2, .int 0, .int 0, .ref od, .ref pt, .int 0, .int 0, .ref fi, .ref re, .int (nI 1), .ref rc, .ref rs, .ref so, .ref ot, .ref cn, .ref la, .int (nI 1), .ref ro, .int 0])) := qs_self
          refine lv_istore (lv' := [(6, .int 0), (5, .int 2), (4, .int 1), (3, .ref o), (2, .ref y), (1, .ref x), (0, .ref b)]) hx hb dL_law_865 hl (by decide) rfl (fun ls hl => ?_)
          refine lv_aload_n hx hb dL_law_867 rfl (lv_at hl 4 rfl) ?_
          refine q_callV (rest := []) C (c_X8_thrown l D cy N0 (qs h y (.inr (8, [.ref ms_, .ref mb, .ref mw, .int gr, .int 2, .int 0, .int 0, .ref od, .ref pt, .int 0, .int 0, .ref fi, .ref re, .int (nI 1), .ref rc, .ref rs, .ref so, .ref ot, .ref cn, .ref la, .int (nI 1), .ref ro, .int 0]))) y ms_ mb mw od pt fi re rc rs so ot cn la ro gr 2 0 0 0 0 (nI 1) (nI 1) 0 hY) kX8_thrown g1238 g1239 rfl g1240 g4 hP hS hY (by first | decide | omega) hl.1 rfl (by decide) (by first | decide | omega) dL_law_868 (fun q ce E h' H1 locs1 hE => hE.elim) (fun v hh7 H locs hq hP hS => ?_)
          obtain ⟨rfl, rfl⟩ := hq
          refine lv_iload hx hb dL_law_871 (lv_at hl 1 rfl) ?_
          refine lv_icmp_eq (tgt := 878) hx hb dL_law_873 (by decide) (fun _ => ?_) (fun c9 => absurd rfl c9)
          refine lv_iload hx hb dL_law_878 (lv_at hl 1 rfl) ?_
          refine lv_if_ne (tgt := 895) hx hb dL_law_880 (by decide) (fun _ => ?_) (fun c => absurd c (by decide))
          refine lv_goto (tgt := 2940) hx hb dL_law_895 (by decide) ?_
          exact kend ls H locs _ _ (by omega) (by omega) hS (lv_sub hl [2, 6] rfl)
      · refine lv_iconst (v := 1) hx hb dL_law_857 (by decide) ?_
        refine lv_goto (tgt := 862) hx hb dL_law_858 (by decide) ?_
        refine q_callV (rest := []) C (c_X8_drop_0 l D cy N0 (h) y ms_ mb mw od pt fi re rc rs so ot cn la ro gr 0 0 0 0 0 (nI 1) (nI 1) 0 f2 g2 s1 s2 s3 1 hY hms hmb hR hRB) kX8_drop g1378 g1379 rfl g1380 g4 hP hS hY (by first | decide | omega) hl.1 rfl (by decide) (by first | decide | omega) dL_law_862 (fun q ce E h' H1 locs1 hE => hE.elim) (fun v hh8 H locs hq hP hS => ?_)
        obtain ⟨cd', rfl, rfl, hq⟩ := hq
        rcases hq with ⟨gB, rfl⟩ | ⟨gB, rfl⟩
        · exact absurd gA gB
        · replace hT := (qs_ne (h := h) (a := y) (o := (.inr (8, [.ref ms_, .ref mb, .ref mw, .int gr, .int 2, .int 0, .int 0, .ref od, .ref pt, .int 0, .int 0, .ref fi, .ref re, .int (nI 1), .ref rc, .ref rs, .ref so, .ref ot, .ref cn, .ref la, .int (nI 1), .ref ro, .int 0]))) (fun q => by subst q; have := hT.symm.trans hY; first | cases this | simp at this)).trans hT
          replace hsl := (qs_ne (h := h) (a := y) (o := (.inr (8, [.ref ms_, .ref mb, .ref mw, .int gr, .int 2, .int 0, .int 0, .ref od, .ref pt, .int 0, .int 0, .ref fi, .ref re, .int (nI 1), .ref rc, .ref rs, .ref so, .ref ot, .ref cn, .ref la, .int (nI 1), .ref ro, .int 0]))) (fun q => by subst q; have := hsl.symm.trans hY; first | cases this | simp at this)).trans hsl
          replace ho := (qs_ne (h := h) (a := y) (o := (.inr (8, [.ref ms_, .ref mb, .ref mw, .int gr, .int 2, .int 0, .int 0, .ref od, .ref pt, .int 0, .int 0, .ref fi, .ref re, .int (nI 1), .ref rc, .ref rs, .ref so, .ref ot, .ref cn, .ref la, .int (nI 1), .ref ro, .int 0]))) (fun q => by subst q; have := ho.symm.trans hY; first | cases this | simp at this)).trans ho
          replace hY : (qs h y (.inr (8, [.ref ms_, .ref mb, .ref mw, .int gr, .int 2, .int 0, .int 0, .ref od, .ref pt, .int 0, .int 0, .ref fi, .ref re, .int (nI 1), .ref rc, .ref rs, .ref so, .ref ot, .ref cn, .ref la, .int (nI 1), .ref ro, .int 0]))) y = some (.inr (8, [.ref ms_, .ref mb, .ref mw, .int gr, .int 2, .int 0, .int 0, .ref od, .ref pt, .int 0, .int 0, .ref fi, .ref re, .int (nI 1), .ref rc, .ref rs, .ref so, .ref ot, .ref cn, .ref la, .int (nI 1), .ref ro, .int 0])) := qs_self
          refine lv_istore (lv' := [(6, .int 0), (5, .int 2), (4, .int 1), (3, .ref o), (2, .ref y), (1, .ref x), (0, .ref b)]) hx hb dL_law_865 hl (by decide) rfl (fun ls hl => ?_)
          refine lv_aload_n hx hb dL_law_867 rfl (lv_at hl 4 rfl) ?_
          refine q_callV (rest := []) C (c_X8_thrown l D cy N0 (qs h y (.inr (8, [.ref ms_, .ref mb, .ref mw, .int gr, .int 2, .int 0, .int 0, .ref od, .ref pt, .int 0, .int 0, .ref fi, .ref re, .int (nI 1), .ref rc, .ref rs, .ref so, .ref ot, .ref cn, .ref la, .int (nI 1), .ref ro, .int 0]))) y ms_ mb mw od pt fi re rc rs so ot cn la ro gr 2 0 0 0 0 (nI 1) (nI 1) 0 hY) kX8_thrown g1238 g1239 rfl g1240 g4 hP hS hY (by first | decide | omega) hl.1 rfl (by decide) (by first | decide | omega) dL_law_868 (fun q ce E h' H1 locs1 hE => hE.elim) (fun v hh9 H locs hq hP hS => ?_)
          obtain ⟨rfl, rfl⟩ := hq
          refine lv_iload hx hb dL_law_871 (lv_at hl 1 rfl) ?_
          refine lv_icmp_eq (tgt := 878) hx hb dL_law_873 (by decide) (fun _ => ?_) (fun c9 => absurd rfl c9)
          refine lv_iload hx hb dL_law_878 (lv_at hl 1 rfl) ?_
          refine lv_if_ne (tgt := 895) hx hb dL_law_880 (by decide) (fun _ => ?_) (fun c => absurd c (by decide))
          refine lv_goto (tgt := 2940) hx hb dL_law_895 (by decide) ?_
          exact kend ls H locs _ _ (by omega) (by omega) hS (lv_sub hl [2, 6] rfl)
  · refine lv_iconst (v := 1) hx hb dL_law_818 (by decide) ?_
    refine lv_goto (tgt := 823) hx hb dL_law_819 (by decide) ?_
    refine lv_aload_n hx hb dL_law_823 rfl (lv_at hl 1 rfl) ?_
    refine q_callSW (rest := []) C (c_L_drop_0 l D cy N0 (h) x sl bl kr vr hm 0 0 ed f s1 s2 s3 1 o hT hsl hF) kwL_drop g717 g718 hP hS (by omega) hl.1 rfl (by decide) (by omega) dL_law_824 (fun v hh10 H locs hq hP hS => ?_)
    obtain ⟨rfl, hq⟩ := hq
    rcases hq with ⟨rfl, gA⟩ | ⟨rfl, gA⟩
    · refine lv_istore (lv' := [(5, .int 1), (4, .int 1), (3, .ref o), (2, .ref y), (1, .ref x), (0, .ref b)]) hx hb dL_law_827 hl (by decide) rfl (fun ls hl => ?_)
      refine lv_aload_n hx hb dL_law_829 rfl (lv_at hl 3 rfl) ?_
      refine lv_aload_n hx hb dL_law_830 rfl (lv_at hl 5 rfl) ?_
      refine lv_iload hx hb dL_law_831 (lv_at hl 1 rfl) ?_
      refine lv_iconst (v := 1) hx hb dL_law_833 (by decide) ?_
      refine lv_iadd hx hb dL_law_834 ?_
      refine va_sld hx hb hX hbl0 hbA hS (by unfold vp_in; decide) dL_law_835 ?_
      rw [← es1]
      refine lv_aload_n hx hb dL_law_836 rfl (lv_at hl 5 rfl) ?_
      refine lv_iload hx hb dL_law_837 (lv_at hl 1 rfl) ?_
      refine lv_iconst (v := 2) hx hb dL_law_839 (by decide) ?_
      refine lv_iadd hx hb dL_law_840 ?_
      refine va_sld hx hb hX hbl0 hbA hS (by unfold vp_in; decide) dL_law_841 ?_
      rw [← es2]
      refine lv_aload_n hx hb dL_law_842 rfl (lv_at hl 5 rfl) ?_
      refine lv_iload hx hb dL_law_843 (lv_at hl 1 rfl) ?_
      refine lv_iconst (v := 3) hx hb dL_law_845 (by decide) ?_
      refine lv_iadd hx hb dL_law_846 ?_
      refine va_sld hx hb hX hbl0 hbA hS (by unfold vp_in; decide) dL_law_847 ?_
      rw [← es3]
      refine lv_aload_n hx hb dL_law_848 rfl (lv_at hl 5 rfl) ?_
      refine lv_iload hx hb dL_law_849 (lv_at hl 1 rfl) ?_
      refine lv_iconst (v := 4) hx hb dL_law_851 (by decide) ?_
      refine lv_iadd hx hb dL_law_852 ?_
      refine va_sld hx hb hX hbl0 hbA hS (by unfold vp_in; decide) dL_law_853 ?_
      rw [← es4]
      refine lv_if_eq (tgt := 861) hx hb dL_law_854 (by decide) (fun c854 => ?_) (fun c854 => ?_)
      · refine lv_iconst (v := 0) hx hb dL_law_861 (by decide) ?_
        refine q_callV (rest := []) C (c_X8_drop_0 l D cy N0 (h) y ms_ mb mw od pt fi re rc rs so ot cn la ro gr 0 0 0 0 0 (nI 1) (nI 1) 0 f2 g2 s1 s2 s3 0 hY hms hmb hR hRB) kX8_drop g1378 g1379 rfl g1380 g4 hP hS hY (by first | decide | omega) hl.1 rfl (by decide) (by first | decide | omega) dL_law_862 (fun q ce E h' H1 locs1 hE => hE.elim) (fun v hh11 H locs hq hP hS => ?_)
        obtain ⟨cd', rfl, rfl, hq⟩ := hq
        rcases hq with ⟨gB, rfl⟩ | ⟨gB, rfl⟩
        · replace hT := (qs_ne (h := h) (a := y) (o := (.inr (8, [.ref ms_, .ref mb, .ref mw, .int gr, .int 1, .int 0, .int 0, .ref od, .ref pt, .int 0, .int 0, .ref fi, .ref re, .int (nI 1), .ref rc, .ref rs, .ref so, .ref ot, .ref cn, .ref la, .int (nI 1), .ref ro, .int 0]))) (fun q => by subst q; have := hT.symm.trans hY; first | cases this | simp at this)).trans hT
          replace hsl := (qs_ne (h := h) (a := y) (o := (.inr (8, [.ref ms_, .ref mb, .ref mw, .int gr, .int 1, .int 0, .int 0, .ref od, .ref pt, .int 0, .int 0, .ref fi, .ref re, .int (nI 1), .ref rc, .ref rs, .ref so, .ref ot, .ref cn, .ref la, .int (nI 1), .ref ro, .int 0]))) (fun q => by subst q; have := hsl.symm.trans hY; first | cases this | simp at this)).trans hsl
          replace ho := (qs_ne (h := h) (a := y) (o := (.inr (8, [.ref ms_, .ref mb, .ref mw, .int gr, .int 1, .int 0, .int 0, .ref od, .ref pt, .int 0, .int 0, .ref fi, .ref re, .int (nI 1), .ref rc, .ref rs, .ref so, .ref ot, .ref cn, .ref la, .int (nI 1), .ref ro, .int 0]))) (fun q => by subst q; have := ho.symm.trans hY; first | cases this | simp at this)).trans ho
          replace hY : (qs h y (.inr (8, [.ref ms_, .ref mb, .ref mw, .int gr, .int 1, .int 0, .int 0, .ref od, .ref pt, .int 0, .int 0, .ref fi, .ref re, .int (nI 1), .ref rc, .ref rs, .ref so, .ref ot, .ref cn, .ref la, .int (nI 1), .ref ro, .int 0]))) y = some (.inr (8, [.ref ms_, .ref mb, .ref mw, .int gr, .int 1, .int 0, .int 0, .ref od, .ref pt, .int 0, .int 0, .ref fi, .ref re, .int (nI 1), .ref rc, .ref rs, .ref so, .ref ot, .ref cn, .ref la, .int (nI 1), .ref ro, .int 0])) := qs_self
          refine lv_istore (lv' := [(6, .int 0), (5, .int 1), (4, .int 1), (3, .ref o), (2, .ref y), (1, .ref x), (0, .ref b)]) hx hb dL_law_865 hl (by decide) rfl (fun ls hl => ?_)
          refine lv_aload_n hx hb dL_law_867 rfl (lv_at hl 4 rfl) ?_
          refine q_callV (rest := []) C (c_X8_thrown l D cy N0 (qs h y (.inr (8, [.ref ms_, .ref mb, .ref mw, .int gr, .int 1, .int 0, .int 0, .ref od, .ref pt, .int 0, .int 0, .ref fi, .ref re, .int (nI 1), .ref rc, .ref rs, .ref so, .ref ot, .ref cn, .ref la, .int (nI 1), .ref ro, .int 0]))) y ms_ mb mw od pt fi re rc rs so ot cn la ro gr 1 0 0 0 0 (nI 1) (nI 1) 0 hY) kX8_thrown g1238 g1239 rfl g1240 g4 hP hS hY (by first | decide | omega) hl.1 rfl (by decide) (by first | decide | omega) dL_law_868 (fun q ce E h' H1 locs1 hE => hE.elim) (fun v hh12 H locs hq hP hS => ?_)
          obtain ⟨rfl, rfl⟩ := hq
          refine lv_iload hx hb dL_law_871 (lv_at hl 1 rfl) ?_
          refine lv_icmp_eq (tgt := 878) hx hb dL_law_873 (by decide) (fun _ => ?_) (fun c9 => absurd rfl c9)
          refine lv_iload hx hb dL_law_878 (lv_at hl 1 rfl) ?_
          refine lv_if_ne (tgt := 895) hx hb dL_law_880 (by decide) (fun _ => ?_) (fun c => absurd c (by decide))
          refine lv_goto (tgt := 2940) hx hb dL_law_895 (by decide) ?_
          exact kend ls H locs _ _ (by omega) (by omega) hS (lv_sub hl [2, 6] rfl)
        · exact absurd gB gA
      · refine lv_iconst (v := 1) hx hb dL_law_857 (by decide) ?_
        refine lv_goto (tgt := 862) hx hb dL_law_858 (by decide) ?_
        refine q_callV (rest := []) C (c_X8_drop_0 l D cy N0 (h) y ms_ mb mw od pt fi re rc rs so ot cn la ro gr 0 0 0 0 0 (nI 1) (nI 1) 0 f2 g2 s1 s2 s3 1 hY hms hmb hR hRB) kX8_drop g1378 g1379 rfl g1380 g4 hP hS hY (by first | decide | omega) hl.1 rfl (by decide) (by first | decide | omega) dL_law_862 (fun q ce E h' H1 locs1 hE => hE.elim) (fun v hh13 H locs hq hP hS => ?_)
        obtain ⟨cd', rfl, rfl, hq⟩ := hq
        rcases hq with ⟨gB, rfl⟩ | ⟨gB, rfl⟩
        · replace hT := (qs_ne (h := h) (a := y) (o := (.inr (8, [.ref ms_, .ref mb, .ref mw, .int gr, .int 1, .int 0, .int 0, .ref od, .ref pt, .int 0, .int 0, .ref fi, .ref re, .int (nI 1), .ref rc, .ref rs, .ref so, .ref ot, .ref cn, .ref la, .int (nI 1), .ref ro, .int 0]))) (fun q => by subst q; have := hT.symm.trans hY; first | cases this | simp at this)).trans hT
          replace hsl := (qs_ne (h := h) (a := y) (o := (.inr (8, [.ref ms_, .ref mb, .ref mw, .int gr, .int 1, .int 0, .int 0, .ref od, .ref pt, .int 0, .int 0, .ref fi, .ref re, .int (nI 1), .ref rc, .ref rs, .ref so, .ref ot, .ref cn, .ref la, .int (nI 1), .ref ro, .int 0]))) (fun q => by subst q; have := hsl.symm.trans hY; first | cases this | simp at this)).trans hsl
          replace ho := (qs_ne (h := h) (a := y) (o := (.inr (8, [.ref ms_, .ref mb, .ref mw, .int gr, .int 1, .int 0, .int 0, .ref od, .ref pt, .int 0, .int 0, .ref fi, .ref re, .int (nI 1), .ref rc, .ref rs, .ref so, .ref ot, .ref cn, .ref la, .int (nI 1), .ref ro, .int 0]))) (fun q => by subst q; have := ho.symm.trans hY; first | cases this | simp at this)).trans ho
          replace hY : (qs h y (.inr (8, [.ref ms_, .ref mb, .ref mw, .int gr, .int 1, .int 0, .int 0, .ref od, .ref pt, .int 0, .int 0, .ref fi, .ref re, .int (nI 1), .ref rc, .ref rs, .ref so, .ref ot, .ref cn, .ref la, .int (nI 1), .ref ro, .int 0]))) y = some (.inr (8, [.ref ms_, .ref mb, .ref mw, .int gr, .int 1, .int 0, .int 0, .ref od, .ref pt, .int 0, .int 0, .ref fi, .ref re, .int (nI 1), .ref rc, .ref rs, .ref so, .ref ot, .ref cn, .ref la, .int (nI 1), .ref ro, .int 0])) := qs_self
          refine lv_istore (lv' := [(6, .int 0), (5, .int 1), (4, .int 1), (3, .ref o), (2, .ref y), (1, .ref x), (0, .ref b)]) hx hb dL_law_865 hl (by decide) rfl (fun ls hl => ?_)
          refine lv_aload_n hx hb dL_law_867 rfl (lv_at hl 4 rfl) ?_
          refine q_callV (rest := []) C (c_X8_thrown l D cy N0 (qs h y (.inr (8, [.ref ms_, .ref mb, .ref mw, .int gr, .int 1, .int 0, .int 0, .ref od, .ref pt, .int 0, .int 0, .ref fi, .ref re, .int (nI 1), .ref rc, .ref rs, .ref so, .ref ot, .ref cn, .ref la, .int (nI 1), .ref ro, .int 0]))) y ms_ mb mw od pt fi re rc rs so ot cn la ro gr 1 0 0 0 0 (nI 1) (nI 1) 0 hY) kX8_thrown g1238 g1239 rfl g1240 g4 hP hS hY (by first | decide | omega) hl.1 rfl (by decide) (by first | decide | omega) dL_law_868 (fun q ce E h' H1 locs1 hE => hE.elim) (fun v hh14 H locs hq hP hS => ?_)
          obtain ⟨rfl, rfl⟩ := hq
          refine lv_iload hx hb dL_law_871 (lv_at hl 1 rfl) ?_
          refine lv_icmp_eq (tgt := 878) hx hb dL_law_873 (by decide) (fun _ => ?_) (fun c9 => absurd rfl c9)
          refine lv_iload hx hb dL_law_878 (lv_at hl 1 rfl) ?_
          refine lv_if_ne (tgt := 895) hx hb dL_law_880 (by decide) (fun _ => ?_) (fun c => absurd c (by decide))
          refine lv_goto (tgt := 2940) hx hb dL_law_895 (by decide) ?_
          exact kend ls H locs _ _ (by omega) (by omega) hS (lv_sub hl [2, 6] rfl)
        · exact absurd gB gA
    · refine lv_istore (lv' := [(5, .int 2), (4, .int 1), (3, .ref o), (2, .ref y), (1, .ref x), (0, .ref b)]) hx hb dL_law_827 hl (by decide) rfl (fun ls hl => ?_)
      refine lv_aload_n hx hb dL_law_829 rfl (lv_at hl 3 rfl) ?_
      refine lv_aload_n hx hb dL_law_830 rfl (lv_at hl 5 rfl) ?_
      refine lv_iload hx hb dL_law_831 (lv_at hl 1 rfl) ?_
      refine lv_iconst (v := 1) hx hb dL_law_833 (by decide) ?_
      refine lv_iadd hx hb dL_law_834 ?_
      refine va_sld hx hb hX hbl0 hbA hS (by unfold vp_in; decide) dL_law_835 ?_
      rw [← es1]
      refine lv_aload_n hx hb dL_law_836 rfl (lv_at hl 5 rfl) ?_
      refine lv_iload hx hb dL_law_837 (lv_at hl 1 rfl) ?_
      refine lv_iconst (v := 2) hx hb dL_law_839 (by decide) ?_
      refine lv_iadd hx hb dL_law_840 ?_
      refine va_sld hx hb hX hbl0 hbA hS (by unfold vp_in; decide) dL_law_841 ?_
      rw [← es2]
      refine lv_aload_n hx hb dL_law_842 rfl (lv_at hl 5 rfl) ?_
      refine lv_iload hx hb dL_law_843 (lv_at hl 1 rfl) ?_
      refine lv_iconst (v := 3) hx hb dL_law_845 (by decide) ?_
      refine lv_iadd hx hb dL_law_846 ?_
      refine va_sld hx hb hX hbl0 hbA hS (by unfold vp_in; decide) dL_law_847 ?_
      rw [← es3]
      refine lv_aload_n hx hb dL_law_848 rfl (lv_at hl 5 rfl) ?_
      refine lv_iload hx hb dL_law_849 (lv_at hl 1 rfl) ?_
      refine lv_iconst (v := 4) hx hb dL_law_851 (by decide) ?_
      refine lv_iadd hx hb dL_law_852 ?_
      refine va_sld hx hb hX hbl0 hbA hS (by unfold vp_in; decide) dL_law_853 ?_
      rw [← es4]
      refine lv_if_eq (tgt := 861) hx hb dL_law_854 (by decide) (fun c854 => ?_) (fun c854 => ?_)
      · refine lv_iconst (v := 0) hx hb dL_law_861 (by decide) ?_
        refine q_callV (rest := []) C (c_X8_drop_0 l D cy N0 (h) y ms_ mb mw od pt fi re rc rs so ot cn la ro gr 0 0 0 0 0 (nI 1) (nI 1) 0 f2 g2 s1 s2 s3 0 hY hms hmb hR hRB) kX8_drop g1378 g1379 rfl g1380 g4 hP hS hY (by first | decide | omega) hl.1 rfl (by decide) (by first | decide | omega) dL_law_862 (fun q ce E h' H1 locs1 hE => hE.elim) (fun v hh15 H locs hq hP hS => ?_)
        obtain ⟨cd', rfl, rfl, hq⟩ := hq
        rcases hq with ⟨gB, rfl⟩ | ⟨gB, rfl⟩
        · exact absurd gA gB
        · replace hT := (qs_ne (h := h) (a := y) (o := (.inr (8, [.ref ms_, .ref mb, .ref mw, .int gr, .int 2, .int 0, .int 0, .ref od, .ref pt, .int 0, .int 0, .ref fi, .ref re, .int (nI 1), .ref rc, .ref rs, .ref so, .ref ot, .ref cn, .ref la, .int (nI 1), .ref ro, .int 0]))) (fun q => by subst q; have := hT.symm.trans hY; first | cases this | simp at this)).trans hT
          replace hsl := (qs_ne (h := h) (a := y) (o := (.inr (8, [.ref ms_, .ref mb, .ref mw, .int gr, .int 2, .int 0, .int 0, .ref od, .ref pt, .int 0, .int 0, .ref fi, .ref re, .int (nI 1), .ref rc, .ref rs, .ref so, .ref ot, .ref cn, .ref la, .int (nI 1), .ref ro, .int 0]))) (fun q => by subst q; have := hsl.symm.trans hY; first | cases this | simp at this)).trans hsl
          replace ho := (qs_ne (h := h) (a := y) (o := (.inr (8, [.ref ms_, .ref mb, .ref mw, .int gr, .int 2, .int 0, .int 0, .ref od, .ref pt, .int 0, .int 0, .ref fi, .ref re, .int (nI 1), .ref rc, .ref rs, .ref so, .ref ot, .ref cn, .ref la, .int (nI 1), .ref ro, .int 0]))) (fun q => by subst q; have := ho.symm.trans hY; first | cases this | simp at this)).trans ho
          replace hY : (qs h y (.inr (8, [.ref ms_, .ref mb, .ref mw, .int gr, .int 2, .int 0, .int 0, .ref od, .ref pt, .int 0, .int 0, .ref fi, .ref re, .int (nI 1), .ref rc, .ref rs, .ref so, .ref ot, .ref cn, .ref la, .int (nI 1), .ref ro, .int 0]))) y = some (.inr (8, [.ref ms_, .ref mb, .ref mw, .int gr, .int 2, .int 0, .int 0, .ref od, .ref pt, .int 0, .int 0, .ref fi, .ref re, .int (nI 1), .ref rc, .ref rs, .ref so, .ref ot, .ref cn, .ref la, .int (nI 1), .ref ro, .int 0])) := qs_self
          refine lv_istore (lv' := [(6, .int 0), (5, .int 2), (4, .int 1), (3, .ref o), (2, .ref y), (1, .ref x), (0, .ref b)]) hx hb dL_law_865 hl (by decide) rfl (fun ls hl => ?_)
          refine lv_aload_n hx hb dL_law_867 rfl (lv_at hl 4 rfl) ?_
          refine q_callV (rest := []) C (c_X8_thrown l D cy N0 (qs h y (.inr (8, [.ref ms_, .ref mb, .ref mw, .int gr, .int 2, .int 0, .int 0, .ref od, .ref pt, .int 0, .int 0, .ref fi, .ref re, .int (nI 1), .ref rc, .ref rs, .ref so, .ref ot, .ref cn, .ref la, .int (nI 1), .ref ro, .int 0]))) y ms_ mb mw od pt fi re rc rs so ot cn la ro gr 2 0 0 0 0 (nI 1) (nI 1) 0 hY) kX8_thrown g1238 g1239 rfl g1240 g4 hP hS hY (by first | decide | omega) hl.1 rfl (by decide) (by first | decide | omega) dL_law_868 (fun q ce E h' H1 locs1 hE => hE.elim) (fun v hh16 H locs hq hP hS => ?_)
          obtain ⟨rfl, rfl⟩ := hq
          refine lv_iload hx hb dL_law_871 (lv_at hl 1 rfl) ?_
          refine lv_icmp_eq (tgt := 878) hx hb dL_law_873 (by decide) (fun _ => ?_) (fun c9 => absurd rfl c9)
          refine lv_iload hx hb dL_law_878 (lv_at hl 1 rfl) ?_
          refine lv_if_ne (tgt := 895) hx hb dL_law_880 (by decide) (fun _ => ?_) (fun c => absurd c (by decide))
          refine lv_goto (tgt := 2940) hx hb dL_law_895 (by decide) ?_
          exact kend ls H locs _ _ (by omega) (by omega) hS (lv_sub hl [2, 6] rfl)
      · refine lv_iconst (v := 1) hx hb dL_law_857 (by decide) ?_
        refine lv_goto (tgt := 862) hx hb dL_law_858 (by decide) ?_
        refine q_callV (rest := []) C (c_X8_drop_0 l D cy N0 (h) y ms_ mb mw od pt fi re rc rs so ot cn la ro gr 0 0 0 0 0 (nI 1) (nI 1) 0 f2 g2 s1 s2 s3 1 hY hms hmb hR hRB) kX8_drop g1378 g1379 rfl g1380 g4 hP hS hY (by first | decide | omega) hl.1 rfl (by decide) (by first | decide | omega) dL_law_862 (fun q ce E h' H1 locs1 hE => hE.elim) (fun v hh17 H locs hq hP hS => ?_)
        obtain ⟨cd', rfl, rfl, hq⟩ := hq
        rcases hq with ⟨gB, rfl⟩ | ⟨gB, rfl⟩
        · exact absurd gA gB
        · replace hT := (qs_ne (h := h) (a := y) (o := (.inr (8, [.ref ms_, .ref mb, .ref mw, .int gr, .int 2, .int 0, .int 0, .ref od, .ref pt, .int 0, .int 0, .ref fi, .ref re, .int (nI 1), .ref rc, .ref rs, .ref so, .ref ot, .ref cn, .ref la, .int (nI 1), .ref ro, .int 0]))) (fun q => by subst q; have := hT.symm.trans hY; first | cases this | simp at this)).trans hT
          replace hsl := (qs_ne (h := h) (a := y) (o := (.inr (8, [.ref ms_, .ref mb, .ref mw, .int gr, .int 2, .int 0, .int 0, .ref od, .ref pt, .int 0, .int 0, .ref fi, .ref re, .int (nI 1), .ref rc, .ref rs, .ref so, .ref ot, .ref cn, .ref la, .int (nI 1), .ref ro, .int 0]))) (fun q => by subst q; have := hsl.symm.trans hY; first | cases this | simp at this)).trans hsl
          replace ho := (qs_ne (h := h) (a := y) (o := (.inr (8, [.ref ms_, .ref mb, .ref mw, .int gr, .int 2, .int 0, .int 0, .ref od, .ref pt, .int 0, .int 0, .ref fi, .ref re, .int (nI 1), .ref rc, .ref rs, .ref so, .ref ot, .ref cn, .ref la, .int (nI 1), .ref ro, .int 0]))) (fun q => by subst q; have := ho.symm.trans hY; first | cases this | simp at this)).trans ho
          replace hY : (qs h y (.inr (8, [.ref ms_, .ref mb, .ref mw, .int gr, .int 2, .int 0, .int 0, .ref od, .ref pt, .int 0, .int 0, .ref fi, .ref re, .int (nI 1), .ref rc, .ref rs, .ref so, .ref ot, .ref cn, .ref la, .int (nI 1), .ref ro, .int 0]))) y = some (.inr (8, [.ref ms_, .ref mb, .ref mw, .int gr, .int 2, .int 0, .int 0, .ref od, .ref pt, .int 0, .int 0, .ref fi, .ref re, .int (nI 1), .ref rc, .ref rs, .ref so, .ref ot, .ref cn, .ref la, .int (nI 1), .ref ro, .int 0])) := qs_self
          refine lv_istore (lv' := [(6, .int 0), (5, .int 2), (4, .int 1), (3, .ref o), (2, .ref y), (1, .ref x), (0, .ref b)]) hx hb dL_law_865 hl (by decide) rfl (fun ls hl => ?_)
          refine lv_aload_n hx hb dL_law_867 rfl (lv_at hl 4 rfl) ?_
          refine q_callV (rest := []) C (c_X8_thrown l D cy N0 (qs h y (.inr (8, [.ref ms_, .ref mb, .ref mw, .int gr, .int 2, .int 0, .int 0, .ref od, .ref pt, .int 0, .int 0, .ref fi, .ref re, .int (nI 1), .ref rc, .ref rs, .ref so, .ref ot, .ref cn, .ref la, .int (nI 1), .ref ro, .int 0]))) y ms_ mb mw od pt fi re rc rs so ot cn la ro gr 2 0 0 0 0 (nI 1) (nI 1) 0 hY) kX8_thrown g1238 g1239 rfl g1240 g4 hP hS hY (by first | decide | omega) hl.1 rfl (by decide) (by first | decide | omega) dL_law_868 (fun q ce E h' H1 locs1 hE => hE.elim) (fun v hh18 H locs hq hP hS => ?_)
          obtain ⟨rfl, rfl⟩ := hq
          refine lv_iload hx hb dL_law_871 (lv_at hl 1 rfl) ?_
          refine lv_icmp_eq (tgt := 878) hx hb dL_law_873 (by decide) (fun _ => ?_) (fun c9 => absurd rfl c9)
          refine lv_iload hx hb dL_law_878 (lv_at hl 1 rfl) ?_
          refine lv_if_ne (tgt := 895) hx hb dL_law_880 (by decide) (fun _ => ?_) (fun c => absurd c (by decide))
          refine lv_goto (tgt := 2940) hx hb dL_law_895 (by decide) ?_
          exact kend ls H locs _ _ (by omega) (by omega) hS (lv_sub hl [2, 6] rfl)

theorem dL_law_898 : decode cL_law 898 = .ok (.aload_n 1, 1) := by decide +kernel
theorem dL_law_899 : decode cL_law 899 = .ok (.aload_n 0, 1) := by decide +kernel
theorem dL_law_900 : decode cL_law 900 = .ok (.iload 4, 2) := by decide +kernel
theorem dL_law_902 : decode cL_law 902 = .ok (.iconst 1, 1) := by decide +kernel
theorem dL_law_903 : decode cL_law 903 = .ok (.iadd, 1) := by decide +kernel
theorem dL_law_904 : decode cL_law 904 = .ok (.iaload, 1) := by decide +kernel
theorem dL_law_905 : decode cL_law 905 = .ok (.aload_n 0, 1) := by decide +kernel
theorem dL_law_906 : decode cL_law 906 = .ok (.iload 4, 2) := by decide +kernel
theorem dL_law_908 : decode cL_law 908 = .ok (.iconst 2, 1) := by decide +kernel
theorem dL_law_909 : decode cL_law 909 = .ok (.iadd, 1) := by decide +kernel
theorem dL_law_910 : decode cL_law 910 = .ok (.iaload, 1) := by decide +kernel
theorem dL_law_911 : decode cL_law 911 = .ok (.aload_n 3, 1) := by decide +kernel
theorem dL_law_912 : decode cL_law 912 = .ok (.invokestatic 183, 3) := by decide +kernel
theorem dL_law_915 : decode cL_law 915 = .ok (.istore 5, 2) := by decide +kernel
theorem dL_law_917 : decode cL_law 917 = .ok (.aload_n 2, 1) := by decide +kernel
theorem dL_law_918 : decode cL_law 918 = .ok (.aload_n 0, 1) := by decide +kernel
theorem dL_law_919 : decode cL_law 919 = .ok (.iload 4, 2) := by decide +kernel
theorem dL_law_921 : decode cL_law 921 = .ok (.iconst 1, 1) := by decide +kernel
theorem dL_law_922 : decode cL_law 922 = .ok (.iadd, 1) := by decide +kernel
theorem dL_law_923 : decode cL_law 923 = .ok (.iaload, 1) := by decide +kernel
theorem dL_law_924 : decode cL_law 924 = .ok (.aload_n 0, 1) := by decide +kernel
theorem dL_law_925 : decode cL_law 925 = .ok (.iload 4, 2) := by decide +kernel
theorem dL_law_927 : decode cL_law 927 = .ok (.iconst 2, 1) := by decide +kernel
theorem dL_law_928 : decode cL_law 928 = .ok (.iadd, 1) := by decide +kernel
theorem dL_law_929 : decode cL_law 929 = .ok (.iaload, 1) := by decide +kernel
theorem dL_law_930 : decode cL_law 930 = .ok (.invokevirtual 185, 3) := by decide +kernel
theorem dL_law_933 : decode cL_law 933 = .ok (.lstore 6, 2) := by decide +kernel
theorem dL_law_935 : decode cL_law 935 = .ok (.aload_n 2, 1) := by decide +kernel
theorem dL_law_936 : decode cL_law 936 = .ok (.invokevirtual 147, 3) := by decide +kernel
theorem dL_law_939 : decode cL_law 939 = .ok (.iload 5, 2) := by decide +kernel
theorem dL_law_941 : decode cL_law 941 = .ok (.if_icmp .eq 5, 3) := by decide +kernel
theorem dL_law_946 : decode cL_law 946 = .ok (.iload 5, 2) := by decide +kernel
theorem dL_law_948 : decode cL_law 948 = .ok (.ifCond .ne 14, 3) := by decide +kernel
theorem dL_law_962 : decode cL_law 962 = .ok (.goto 1978, 3) := by decide +kernel
set_option maxRecDepth 100000 in
set_option maxHeartbeats 4000000 in
theorem lc_pop {p : Program} {l : Launch} {e : Env} {mc ms : Nat} {s : State} {m : MethodId} {below : List Frame} {meth : Method} {c : Code} {H : Heap} {locs : List Loc} {cells slots : Nat} {Q : State → Prop} {rt0 : Option FieldType} {nm0 : String} {D : va_G} {cy : Nat → ClassId} {N0 : Nat} {tb : List ExceptionTableEntry} {h : qH} {ls : Array Slot} {b : Nat} {xs : Nat → Int32} {x sl bl kr vr : Nat} {hm ed : Int32} {f g : Nat → Option Nat} {y ms_ mb mw od pt fi re rc rs so ot cn la ro : Nat} {gr : Int32} {f2 g2 : Nat → Option Nat} {o : Nat} {fo : Nat → Int64} (C : qX p l s m #[Value.ref b] meth c RL cL_law 8 rt0 nm0 D cy N0 tb) (hX : va_X b 8 xs s s.heap) (hbl0 : b < s.heap.size) (hbA : ¬ qA N0 b) (hP : qP D N0 h H) (hS : va_S (qA N0) s.heap H locs) (hcm : cells + 20 ≤ mc) (hsm : slots + 200 ≤ ms) (hT : h x = some (.inr (6, [.int hm, .ref sl, .ref bl, .ref kr, .ref vr, .int 0, .int 0, .int ed]))) (hsl : h sl = some (.inl (cy 3, 24, .inr (.inr (.inr (.inr f)))))) (hF : ∀ i, i < 24 → f i = none) (hbl : h bl = some (.inl (cy 2, 4, .inr (.inr (.inr (.inr g)))))) (hB : ∀ j, j < 4 → ∃ (b rw : Nat) (kd ln e2 : Int32) (rt : Option Nat), qBd h g j b rw 0 kd ln e2 rt) (hY : h y = some (.inr (8, [.ref ms_, .ref mb, .ref mw, .int gr, .int 0, .int 0, .int 0, .ref od, .ref pt, .int 0, .int 0, .ref fi, .ref re, .int (nI 1), .ref rc, .ref rs, .ref so, .ref ot, .ref cn, .ref la, .int (nI 1), .ref ro, .int 0]))) (hms : h ms_ = some (.inl (cy 5, 24, .inr (.inr (.inr (.inr f2)))))) (hmb : h mb = some (.inl (cy 5, 4, .inr (.inr (.inr (.inr g2)))))) (hR : qRo h f2 24) (hRB : qRo h g2 4) (ho : h o = some (.inl (cy 1, 1, .inr (.inl fo)))) (hfi : h fi = some (.inl (cy 1, 1024, .inr (.inl (fun _ => 0))))) (hre : h re = some (.inl (cy 0, 1024, .inl (fun _ => 0)))) (hrc : h rc = some (.inl (cy 0, 1024, .inl (fun _ => 0)))) (hso : h so = some (.inl (cy 0, 1024, .inl (fun _ => 0)))) (hot : h ot = some (.inl (cy 0, 1024, .inl (fun _ => 0)))) (hcn : h cn = some (.inl (cy 1, 1024, .inr (.inl (fun _ => 0))))) (hla : h la = some (.inl (cy 1, 1024, .inr (.inl (fun _ => 0))))) (n_so_rc : rc ≠ so) (n_ot_rc : rc ≠ ot) (n_rc_re : re ≠ rc) (n_ot_so : so ≠ ot) (n_so_re : re ≠ so) (n_ot_re : re ≠ ot) (n_la_cn : cn ≠ la) (n_cn_fi : fi ≠ cn) (n_la_fi : fi ≠ la) (n_ms_sl : ms_ ≠ sl) (n_mb_sl : mb ≠ sl) (hl : lv_has ls 8 [(4, .int 1), (3, .ref o), (2, .ref y), (1, .ref x), (0, .ref b)]) (kend : ∀ (ls : Array Slot) (H : Heap) (locs : List Loc) (ce sl : Nat), ce ≤ cells + 20 → sl ≤ slots + 200 → va_S (qA N0) s.heap H locs → lv_has ls 8 [(4, .int 1), (0, .ref b)] → W p l e (qR 2048 84000 mc ms) s m #[Value.ref b] below meth c H locs ce sl Q (F0 m 2940 ls [])) : W p l e (qR 2048 84000 mc ms) s m #[Value.ref b] below meth c H locs cells slots Q (F0 m 898 ls []) := by
  have hx := C.1
  have hb := C.2.1
  refine lv_aload_n hx hb dL_law_898 rfl (lv_at hl 3 rfl) ?_
  refine lv_aload_n hx hb dL_law_899 rfl (lv_at hl 4 rfl) ?_
  refine lv_iload hx hb dL_law_900 (lv_at hl 0 rfl) ?_
  refine lv_iconst (v := 1) hx hb dL_law_902 (by decide) ?_
  refine lv_iadd hx hb dL_law_903 ?_
  refine va_sld hx hb hX hbl0 hbA hS (by unfold vp_in; decide) dL_law_904 ?_
  refine lv_topi (fun s1 es1 => ?_)
  refine lv_aload_n hx hb dL_law_905 rfl (lv_at hl 4 rfl) ?_
  refine lv_iload hx hb dL_law_906 (lv_at hl 0 rfl) ?_
  refine lv_iconst (v := 2) hx hb dL_law_908 (by decide) ?_
  refine lv_iadd hx hb dL_law_909 ?_
  refine va_sld hx hb hX hbl0 hbA hS (by unfold vp_in; decide) dL_law_910 ?_
  refine lv_topi (fun s2 es2 => ?_)
  refine lv_aload_n hx hb dL_law_911 rfl (lv_at hl 1 rfl) ?_
  refine q_callSW (rest := []) C (c_L_pop_0 l D cy N0 (h) x sl bl kr vr hm 0 0 ed f s1 s2 o hT hsl hF) kwL_pop g732 g733 hP hS (by omega) hl.1 rfl (by decide) (by omega) dL_law_912 (fun v hh1 H locs hq hP hS => ?_)
  obtain ⟨rfl, hq⟩ := hq
  rcases hq with ⟨rfl, gA⟩ | ⟨rfl, gA⟩
  · refine lv_istore (lv' := [(5, .int 1), (4, .int 1), (3, .ref o), (2, .ref y), (1, .ref x), (0, .ref b)]) hx hb dL_law_915 hl (by decide) rfl (fun ls hl => ?_)
    refine lv_aload_n hx hb dL_law_917 rfl (lv_at hl 3 rfl) ?_
    refine lv_aload_n hx hb dL_law_918 rfl (lv_at hl 5 rfl) ?_
    refine lv_iload hx hb dL_law_919 (lv_at hl 1 rfl) ?_
    refine lv_iconst (v := 1) hx hb dL_law_921 (by decide) ?_
    refine lv_iadd hx hb dL_law_922 ?_
    refine va_sld hx hb hX hbl0 hbA hS (by unfold vp_in; decide) dL_law_923 ?_
    rw [← es1]
    refine lv_aload_n hx hb dL_law_924 rfl (lv_at hl 5 rfl) ?_
    refine lv_iload hx hb dL_law_925 (lv_at hl 1 rfl) ?_
    refine lv_iconst (v := 2) hx hb dL_law_927 (by decide) ?_
    refine lv_iadd hx hb dL_law_928 ?_
    refine va_sld hx hb hX hbl0 hbA hS (by unfold vp_in; decide) dL_law_929 ?_
    rw [← es2]
    refine q_callV (rest := []) C (c_X8_pop_0 l D cy N0 (h) y ms_ mb mw od pt fi re rc rs so ot cn la ro gr 0 0 0 0 0 (nI 1) (nI 1) 0 f2 g2 s1 s2 hY hms hmb hR hRB) kX8_pop g1382 g1383 rfl g1384 g4 hP hS hY (by first | decide | omega) hl.1 rfl (by decide) (by first | decide | omega) dL_law_930 (fun q ce E h' H1 locs1 hE => hE.elim) (fun v hh2 H locs hq hP hS => ?_)
    obtain ⟨cd', rfl, rfl, hq⟩ := hq
    rcases hq with ⟨gB, rfl⟩ | ⟨gB, rfl⟩
    · replace hT := (qs_ne (h := h) (a := y) (o := (.inr (8, [.ref ms_, .ref mb, .ref mw, .int gr, .int 1, .int 0, .int 0, .ref od, .ref pt, .int 0, .int 0, .ref fi, .ref re, .int (nI 1), .ref rc, .ref rs, .ref so, .ref ot, .ref cn, .ref la, .int (nI 1), .ref ro, .int 0]))) (fun q => by subst q; have := hT.symm.trans hY; first | cases this | simp at this)).trans hT
      replace hsl := (qs_ne (h := h) (a := y) (o := (.inr (8, [.ref ms_, .ref mb, .ref mw, .int gr, .int 1, .int 0, .int 0, .ref od, .ref pt, .int 0, .int 0, .ref fi, .ref re, .int (nI 1), .ref rc, .ref rs, .ref so, .ref ot, .ref cn, .ref la, .int (nI 1), .ref ro, .int 0]))) (fun q => by subst q; have := hsl.symm.trans hY; first | cases this | simp at this)).trans hsl
      replace ho := (qs_ne (h := h) (a := y) (o := (.inr (8, [.ref ms_, .ref mb, .ref mw, .int gr, .int 1, .int 0, .int 0, .ref od, .ref pt, .int 0, .int 0, .ref fi, .ref re, .int (nI 1), .ref rc, .ref rs, .ref so, .ref ot, .ref cn, .ref la, .int (nI 1), .ref ro, .int 0]))) (fun q => by subst q; have := ho.symm.trans hY; first | cases this | simp at this)).trans ho
      replace hY : (qs h y (.inr (8, [.ref ms_, .ref mb, .ref mw, .int gr, .int 1, .int 0, .int 0, .ref od, .ref pt, .int 0, .int 0, .ref fi, .ref re, .int (nI 1), .ref rc, .ref rs, .ref so, .ref ot, .ref cn, .ref la, .int (nI 1), .ref ro, .int 0]))) y = some (.inr (8, [.ref ms_, .ref mb, .ref mw, .int gr, .int 1, .int 0, .int 0, .ref od, .ref pt, .int 0, .int 0, .ref fi, .ref re, .int (nI 1), .ref rc, .ref rs, .ref so, .ref ot, .ref cn, .ref la, .int (nI 1), .ref ro, .int 0])) := qs_self
      refine lv_lstore (lv' := [(6, .long 0), (5, .int 1), (4, .int 1), (3, .ref o), (2, .ref y), (1, .ref x), (0, .ref b)]) hx hb dL_law_933 hl (by decide) rfl (fun ls hl => ?_)
      refine lv_aload_n hx hb dL_law_935 rfl (lv_at hl 4 rfl) ?_
      refine q_callV (rest := []) C (c_X8_thrown l D cy N0 (qs h y (.inr (8, [.ref ms_, .ref mb, .ref mw, .int gr, .int 1, .int 0, .int 0, .ref od, .ref pt, .int 0, .int 0, .ref fi, .ref re, .int (nI 1), .ref rc, .ref rs, .ref so, .ref ot, .ref cn, .ref la, .int (nI 1), .ref ro, .int 0]))) y ms_ mb mw od pt fi re rc rs so ot cn la ro gr 1 0 0 0 0 (nI 1) (nI 1) 0 hY) kX8_thrown g1238 g1239 rfl g1240 g4 hP hS hY (by first | decide | omega) hl.1 rfl (by decide) (by first | decide | omega) dL_law_936 (fun q ce E h' H1 locs1 hE => hE.elim) (fun v hh3 H locs hq hP hS => ?_)
      obtain ⟨rfl, rfl⟩ := hq
      refine lv_iload hx hb dL_law_939 (lv_at hl 1 rfl) ?_
      refine lv_icmp_eq (tgt := 946) hx hb dL_law_941 (by decide) (fun _ => ?_) (fun c9 => absurd rfl c9)
      refine lv_iload hx hb dL_law_946 (lv_at hl 1 rfl) ?_
      refine lv_if_ne (tgt := 962) hx hb dL_law_948 (by decide) (fun _ => ?_) (fun c => absurd c (by decide))
      refine lv_goto (tgt := 2940) hx hb dL_law_962 (by decide) ?_
      exact kend ls H locs _ _ (by omega) (by omega) hS (lv_sub hl [2, 6] rfl)
    · exact absurd gB gA
  · refine lv_istore (lv' := [(5, .int 2), (4, .int 1), (3, .ref o), (2, .ref y), (1, .ref x), (0, .ref b)]) hx hb dL_law_915 hl (by decide) rfl (fun ls hl => ?_)
    refine lv_aload_n hx hb dL_law_917 rfl (lv_at hl 3 rfl) ?_
    refine lv_aload_n hx hb dL_law_918 rfl (lv_at hl 5 rfl) ?_
    refine lv_iload hx hb dL_law_919 (lv_at hl 1 rfl) ?_
    refine lv_iconst (v := 1) hx hb dL_law_921 (by decide) ?_
    refine lv_iadd hx hb dL_law_922 ?_
    refine va_sld hx hb hX hbl0 hbA hS (by unfold vp_in; decide) dL_law_923 ?_
    rw [← es1]
    refine lv_aload_n hx hb dL_law_924 rfl (lv_at hl 5 rfl) ?_
    refine lv_iload hx hb dL_law_925 (lv_at hl 1 rfl) ?_
    refine lv_iconst (v := 2) hx hb dL_law_927 (by decide) ?_
    refine lv_iadd hx hb dL_law_928 ?_
    refine va_sld hx hb hX hbl0 hbA hS (by unfold vp_in; decide) dL_law_929 ?_
    rw [← es2]
    refine q_callV (rest := []) C (c_X8_pop_0 l D cy N0 (h) y ms_ mb mw od pt fi re rc rs so ot cn la ro gr 0 0 0 0 0 (nI 1) (nI 1) 0 f2 g2 s1 s2 hY hms hmb hR hRB) kX8_pop g1382 g1383 rfl g1384 g4 hP hS hY (by first | decide | omega) hl.1 rfl (by decide) (by first | decide | omega) dL_law_930 (fun q ce E h' H1 locs1 hE => hE.elim) (fun v hh4 H locs hq hP hS => ?_)
    obtain ⟨cd', rfl, rfl, hq⟩ := hq
    rcases hq with ⟨gB, rfl⟩ | ⟨gB, rfl⟩
    · exact absurd gA gB
    · replace hT := (qs_ne (h := h) (a := y) (o := (.inr (8, [.ref ms_, .ref mb, .ref mw, .int gr, .int 2, .int 0, .int 0, .ref od, .ref pt, .int 0, .int 0, .ref fi, .ref re, .int (nI 1), .ref rc, .ref rs, .ref so, .ref ot, .ref cn, .ref la, .int (nI 1), .ref ro, .int 0]))) (fun q => by subst q; have := hT.symm.trans hY; first | cases this | simp at this)).trans hT
      replace hsl := (qs_ne (h := h) (a := y) (o := (.inr (8, [.ref ms_, .ref mb, .ref mw, .int gr, .int 2, .int 0, .int 0, .ref od, .ref pt, .int 0, .int 0, .ref fi, .ref re, .int (nI 1), .ref rc, .ref rs, .ref so, .ref ot, .ref cn, .ref la, .int (nI 1), .ref ro, .int 0]))) (fun q => by subst q; have := hsl.symm.trans hY; first | cases this | simp at this)).trans hsl
      replace ho := (qs_ne (h := h) (a := y) (o := (.inr (8, [.ref ms_, .ref mb, .ref mw, .int gr, .int 2, .int 0, .int 0, .ref od, .ref pt, .int 0, .int 0, .ref fi, .ref re, .int (nI 1), .ref rc, .ref rs, .ref so, .ref ot, .ref cn, .ref la, .int (nI 1), .ref ro, .int 0]))) (fun q => by subst q; have := ho.symm.trans hY; first | cases this | simp at this)).trans ho
      replace hY : (qs h y (.inr (8, [.ref ms_, .ref mb, .ref mw, .int gr, .int 2, .int 0, .int 0, .ref od, .ref pt, .int 0, .int 0, .ref fi, .ref re, .int (nI 1), .ref rc, .ref rs, .ref so, .ref ot, .ref cn, .ref la, .int (nI 1), .ref ro, .int 0]))) y = some (.inr (8, [.ref ms_, .ref mb, .ref mw, .int gr, .int 2, .int 0, .int 0, .ref od, .ref pt, .int 0, .int 0, .ref fi, .ref re, .int (nI 1), .ref rc, .ref rs, .ref so, .ref ot, .ref cn, .ref la, .int (nI 1), .ref ro, .int 0])) := qs_self
      refine lv_lstore (lv' := [(6, .long 0), (5, .int 2), (4, .int 1), (3, .ref o), (2, .ref y), (1, .ref x), (0, .ref b)]) hx hb dL_law_933 hl (by decide) rfl (fun ls hl => ?_)
      refine lv_aload_n hx hb dL_law_935 rfl (lv_at hl 4 rfl) ?_
      refine q_callV (rest := []) C (c_X8_thrown l D cy N0 (qs h y (.inr (8, [.ref ms_, .ref mb, .ref mw, .int gr, .int 2, .int 0, .int 0, .ref od, .ref pt, .int 0, .int 0, .ref fi, .ref re, .int (nI 1), .ref rc, .ref rs, .ref so, .ref ot, .ref cn, .ref la, .int (nI 1), .ref ro, .int 0]))) y ms_ mb mw od pt fi re rc rs so ot cn la ro gr 2 0 0 0 0 (nI 1) (nI 1) 0 hY) kX8_thrown g1238 g1239 rfl g1240 g4 hP hS hY (by first | decide | omega) hl.1 rfl (by decide) (by first | decide | omega) dL_law_936 (fun q ce E h' H1 locs1 hE => hE.elim) (fun v hh5 H locs hq hP hS => ?_)
      obtain ⟨rfl, rfl⟩ := hq
      refine lv_iload hx hb dL_law_939 (lv_at hl 1 rfl) ?_
      refine lv_icmp_eq (tgt := 946) hx hb dL_law_941 (by decide) (fun _ => ?_) (fun c9 => absurd rfl c9)
      refine lv_iload hx hb dL_law_946 (lv_at hl 1 rfl) ?_
      refine lv_if_ne (tgt := 962) hx hb dL_law_948 (by decide) (fun _ => ?_) (fun c => absurd c (by decide))
      refine lv_goto (tgt := 2940) hx hb dL_law_962 (by decide) ?_
      exact kend ls H locs _ _ (by omega) (by omega) hS (lv_sub hl [2, 6] rfl)
