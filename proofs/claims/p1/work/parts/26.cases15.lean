theorem dL_law_2884 : decode cL_law 2884 = .ok (.aload_n 1, 1) := by decide +kernel
theorem dL_law_2885 : decode cL_law 2885 = .ok (.aload_n 0, 1) := by decide +kernel
theorem dL_law_2886 : decode cL_law 2886 = .ok (.iload 4, 2) := by decide +kernel
theorem dL_law_2888 : decode cL_law 2888 = .ok (.iconst 1, 1) := by decide +kernel
theorem dL_law_2889 : decode cL_law 2889 = .ok (.iadd, 1) := by decide +kernel
theorem dL_law_2890 : decode cL_law 2890 = .ok (.iaload, 1) := by decide +kernel
theorem dL_law_2891 : decode cL_law 2891 = .ok (.aload_n 3, 1) := by decide +kernel
theorem dL_law_2892 : decode cL_law 2892 = .ok (.invokestatic 253, 3) := by decide +kernel
theorem dL_law_2895 : decode cL_law 2895 = .ok (.istore 5, 2) := by decide +kernel
theorem dL_law_2897 : decode cL_law 2897 = .ok (.aload_n 2, 1) := by decide +kernel
theorem dL_law_2898 : decode cL_law 2898 = .ok (.aload_n 0, 1) := by decide +kernel
theorem dL_law_2899 : decode cL_law 2899 = .ok (.iload 4, 2) := by decide +kernel
theorem dL_law_2901 : decode cL_law 2901 = .ok (.iconst 1, 1) := by decide +kernel
theorem dL_law_2902 : decode cL_law 2902 = .ok (.iadd, 1) := by decide +kernel
theorem dL_law_2903 : decode cL_law 2903 = .ok (.iaload, 1) := by decide +kernel
theorem dL_law_2904 : decode cL_law 2904 = .ok (.invokevirtual 255, 3) := by decide +kernel
theorem dL_law_2907 : decode cL_law 2907 = .ok (.istore 6, 2) := by decide +kernel
theorem dL_law_2909 : decode cL_law 2909 = .ok (.aload_n 2, 1) := by decide +kernel
theorem dL_law_2910 : decode cL_law 2910 = .ok (.invokevirtual 147, 3) := by decide +kernel
theorem dL_law_2913 : decode cL_law 2913 = .ok (.iload 5, 2) := by decide +kernel
theorem dL_law_2915 : decode cL_law 2915 = .ok (.if_icmp .eq 5, 3) := by decide +kernel
theorem dL_law_2920 : decode cL_law 2920 = .ok (.iload 5, 2) := by decide +kernel
theorem dL_law_2922 : decode cL_law 2922 = .ok (.ifCond .ne 15, 3) := by decide +kernel
theorem dL_law_2925 : decode cL_law 2925 = .ok (.aload_n 3, 1) := by decide +kernel
theorem dL_law_2926 : decode cL_law 2926 = .ok (.iconst 0, 1) := by decide +kernel
theorem dL_law_2927 : decode cL_law 2927 = .ok (.laload, 1) := by decide +kernel
theorem dL_law_2928 : decode cL_law 2928 = .ok (.iload 6, 2) := by decide +kernel
theorem dL_law_2930 : decode cL_law 2930 = .ok (.i2l, 1) := by decide +kernel
theorem dL_law_2931 : decode cL_law 2931 = .ok (.lcmp, 1) := by decide +kernel
theorem dL_law_2932 : decode cL_law 2932 = .ok (.ifCond .eq 5, 3) := by decide +kernel
theorem dL_law_2937 : decode cL_law 2937 = .ok (.goto 3, 3) := by decide +kernel
set_option maxRecDepth 100000 in
set_option maxHeartbeats 4000000 in
theorem lc_count {p : Program} {l : Launch} {e : Env} {mc ms : Nat} {s : State} {m : MethodId} {below : List Frame} {meth : Method} {c : Code} {H : Heap} {locs : List Loc} {cells slots : Nat} {Q : State → Prop} {rt0 : Option FieldType} {nm0 : String} {D : va_G} {cy : Nat → ClassId} {N0 : Nat} {tb : List ExceptionTableEntry} {h : qH} {ls : Array Slot} {b : Nat} {xs : Nat → Int32} {x sl bl kr vr : Nat} {hm ed : Int32} {f g : Nat → Option Nat} {y ms_ mb mw od pt fi re rc rs so ot cn la ro : Nat} {gr : Int32} {f2 g2 : Nat → Option Nat} {o : Nat} {fo : Nat → Int64} (C : qX p l s m #[Value.ref b] meth c RL cL_law 8 rt0 nm0 D cy N0 tb) (hX : va_X b 8 xs s s.heap) (hbl0 : b < s.heap.size) (hbA : ¬ qA N0 b) (hP : qP D N0 h H) (hS : va_S (qA N0) s.heap H locs) (hcm : cells + 20 ≤ mc) (hsm : slots + 200 ≤ ms) (hT : h x = some (.inr (6, [.int hm, .ref sl, .ref bl, .ref kr, .ref vr, .int 0, .int 0, .int ed]))) (hsl : h sl = some (.inl (cy 3, 24, .inr (.inr (.inr (.inr f)))))) (hF : ∀ i, i < 24 → f i = none) (hbl : h bl = some (.inl (cy 2, 4, .inr (.inr (.inr (.inr g)))))) (hB : ∀ j, j < 4 → ∃ (b rw : Nat) (kd ln e2 : Int32) (rt : Option Nat), qBd h g j b rw 0 kd ln e2 rt) (hY : h y = some (.inr (8, [.ref ms_, .ref mb, .ref mw, .int gr, .int 0, .int 0, .int 0, .ref od, .ref pt, .int 0, .int 0, .ref fi, .ref re, .int (nI 1), .ref rc, .ref rs, .ref so, .ref ot, .ref cn, .ref la, .int (nI 1), .ref ro, .int 0]))) (hms : h ms_ = some (.inl (cy 5, 24, .inr (.inr (.inr (.inr f2)))))) (hmb : h mb = some (.inl (cy 5, 4, .inr (.inr (.inr (.inr g2)))))) (hR : qRo h f2 24) (hRB : qRo h g2 4) (ho : h o = some (.inl (cy 1, 1, .inr (.inl fo)))) (hfi : h fi = some (.inl (cy 1, 1024, .inr (.inl (fun _ => 0))))) (hre : h re = some (.inl (cy 0, 1024, .inl (fun _ => 0)))) (hrc : h rc = some (.inl (cy 0, 1024, .inl (fun _ => 0)))) (hso : h so = some (.inl (cy 0, 1024, .inl (fun _ => 0)))) (hot : h ot = some (.inl (cy 0, 1024, .inl (fun _ => 0)))) (hcn : h cn = some (.inl (cy 1, 1024, .inr (.inl (fun _ => 0))))) (hla : h la = some (.inl (cy 1, 1024, .inr (.inl (fun _ => 0))))) (n_so_rc : rc ≠ so) (n_ot_rc : rc ≠ ot) (n_rc_re : re ≠ rc) (n_ot_so : so ≠ ot) (n_so_re : re ≠ so) (n_ot_re : re ≠ ot) (n_la_cn : cn ≠ la) (n_cn_fi : fi ≠ cn) (n_la_fi : fi ≠ la) (n_ms_sl : ms_ ≠ sl) (n_mb_sl : mb ≠ sl) (hl : lv_has ls 8 [(4, .int 1), (3, .ref o), (2, .ref y), (1, .ref x), (0, .ref b)]) (kend : ∀ (ls : Array Slot) (H : Heap) (locs : List Loc) (ce sl : Nat), ce ≤ cells + 20 → sl ≤ slots + 200 → va_S (qA N0) s.heap H locs → lv_has ls 8 [(4, .int 1), (0, .ref b)] → W p l e (qR 2048 84000 mc ms) s m #[Value.ref b] below meth c H locs ce sl Q (F0 m 2940 ls [])) : W p l e (qR 2048 84000 mc ms) s m #[Value.ref b] below meth c H locs cells slots Q (F0 m 2884 ls []) := by
  have hx := C.1
  have hb := C.2.1
  refine lv_aload_n hx hb dL_law_2884 rfl (lv_at hl 3 rfl) ?_
  refine lv_aload_n hx hb dL_law_2885 rfl (lv_at hl 4 rfl) ?_
  refine lv_iload hx hb dL_law_2886 (lv_at hl 0 rfl) ?_
  refine lv_iconst (v := 1) hx hb dL_law_2888 (by decide) ?_
  refine lv_iadd hx hb dL_law_2889 ?_
  refine va_sld hx hb hX hbl0 hbA hS (by unfold vp_in; decide) dL_law_2890 ?_
  refine lv_topi (fun s1 es1 => ?_)
  refine lv_aload_n hx hb dL_law_2891 rfl (lv_at hl 1 rfl) ?_
  refine q_callSW (rest := []) C (c_L_count_0 l D cy N0 (h) x sl bl kr vr hm ed f g s1 o fo hT hsl hF hbl hB ho) kwL_count g1073 g1074 hP hS (by omega) hl.1 rfl (by decide) (by omega) dL_law_2892 (fun v hh1 H locs hq hP hS => ?_)
  rcases hq with ⟨rfl, gA, rfl⟩ | ⟨rfl, gA, rfl⟩
  · refine lv_istore (lv' := [(5, .int 1), (4, .int 1), (3, .ref o), (2, .ref y), (1, .ref x), (0, .ref b)]) hx hb dL_law_2895 hl (by decide) rfl (fun ls hl => ?_)
    refine lv_aload_n hx hb dL_law_2897 rfl (lv_at hl 3 rfl) ?_
    refine lv_aload_n hx hb dL_law_2898 rfl (lv_at hl 5 rfl) ?_
    refine lv_iload hx hb dL_law_2899 (lv_at hl 1 rfl) ?_
    refine lv_iconst (v := 1) hx hb dL_law_2901 (by decide) ?_
    refine lv_iadd hx hb dL_law_2902 ?_
    refine va_sld hx hb hX hbl0 hbA hS (by unfold vp_in; decide) dL_law_2903 ?_
    rw [← es1]
    refine q_callV (rest := []) C (c_X8_count_0 l D cy N0 (h) y ms_ mb mw od pt fi re rc rs so ot cn la ro gr 0 0 0 (nI 1) (nI 1) 0 f2 g2 s1 hY hms hmb hR hRB) kX8_count g1480 g1481 rfl g1482 g4 hP hS hY (by first | decide | omega) hl.1 rfl (by decide) (by first | decide | omega) dL_law_2904 (fun q ce E h' H1 locs1 hE => hE.elim) (fun v hh2 H locs hq hP hS => ?_)
    obtain ⟨cd', rfl, rfl, hq⟩ := hq
    rcases hq with ⟨gB, rfl⟩ | ⟨gB, rfl⟩
    · replace hT := (qs_ne (h := h) (a := y) (o := (.inr (8, [.ref ms_, .ref mb, .ref mw, .int gr, .int 1, .int 0, .int 0, .ref od, .ref pt, .int 0, .int 0, .ref fi, .ref re, .int (nI 1), .ref rc, .ref rs, .ref so, .ref ot, .ref cn, .ref la, .int (nI 1), .ref ro, .int 0]))) (fun q => by subst q; have := hT.symm.trans hY; first | cases this | simp at this)).trans hT
      replace hsl := (qs_ne (h := h) (a := y) (o := (.inr (8, [.ref ms_, .ref mb, .ref mw, .int gr, .int 1, .int 0, .int 0, .ref od, .ref pt, .int 0, .int 0, .ref fi, .ref re, .int (nI 1), .ref rc, .ref rs, .ref so, .ref ot, .ref cn, .ref la, .int (nI 1), .ref ro, .int 0]))) (fun q => by subst q; have := hsl.symm.trans hY; first | cases this | simp at this)).trans hsl
      replace ho := (qs_ne (h := h) (a := y) (o := (.inr (8, [.ref ms_, .ref mb, .ref mw, .int gr, .int 1, .int 0, .int 0, .ref od, .ref pt, .int 0, .int 0, .ref fi, .ref re, .int (nI 1), .ref rc, .ref rs, .ref so, .ref ot, .ref cn, .ref la, .int (nI 1), .ref ro, .int 0]))) (fun q => by subst q; have := ho.symm.trans hY; first | cases this | simp at this)).trans ho
      replace hY : (qs h y (.inr (8, [.ref ms_, .ref mb, .ref mw, .int gr, .int 1, .int 0, .int 0, .ref od, .ref pt, .int 0, .int 0, .ref fi, .ref re, .int (nI 1), .ref rc, .ref rs, .ref so, .ref ot, .ref cn, .ref la, .int (nI 1), .ref ro, .int 0]))) y = some (.inr (8, [.ref ms_, .ref mb, .ref mw, .int gr, .int 1, .int 0, .int 0, .ref od, .ref pt, .int 0, .int 0, .ref fi, .ref re, .int (nI 1), .ref rc, .ref rs, .ref so, .ref ot, .ref cn, .ref la, .int (nI 1), .ref ro, .int 0])) := qs_self
      refine lv_istore (lv' := [(6, .int 0), (5, .int 1), (4, .int 1), (3, .ref o), (2, .ref y), (1, .ref x), (0, .ref b)]) hx hb dL_law_2907 hl (by decide) rfl (fun ls hl => ?_)
      refine lv_aload_n hx hb dL_law_2909 rfl (lv_at hl 4 rfl) ?_
      refine q_callV (rest := []) C (c_X8_thrown l D cy N0 (qs h y (.inr (8, [.ref ms_, .ref mb, .ref mw, .int gr, .int 1, .int 0, .int 0, .ref od, .ref pt, .int 0, .int 0, .ref fi, .ref re, .int (nI 1), .ref rc, .ref rs, .ref so, .ref ot, .ref cn, .ref la, .int (nI 1), .ref ro, .int 0]))) y ms_ mb mw od pt fi re rc rs so ot cn la ro gr 1 0 0 0 0 (nI 1) (nI 1) 0 hY) kX8_thrown g1238 g1239 rfl g1240 g4 hP hS hY (by first | decide | omega) hl.1 rfl (by decide) (by first | decide | omega) dL_law_2910 (fun q ce E h' H1 locs1 hE => hE.elim) (fun v hh3 H locs hq hP hS => ?_)
      obtain ⟨rfl, rfl⟩ := hq
      refine lv_iload hx hb dL_law_2913 (lv_at hl 1 rfl) ?_
      refine lv_icmp_eq (tgt := 2920) hx hb dL_law_2915 (by decide) (fun _ => ?_) (fun c9 => absurd rfl c9)
      refine lv_iload hx hb dL_law_2920 (lv_at hl 1 rfl) ?_
      refine lv_if_ne (tgt := 2937) hx hb dL_law_2922 (by decide) (fun _ => ?_) (fun c => absurd c (by decide))
      refine lv_goto (tgt := 2940) hx hb dL_law_2937 (by decide) ?_
      exact kend ls H locs _ _ (by omega) (by omega) hS (lv_sub hl [2, 6] rfl)
    · exact absurd gB gA
  · refine lv_istore (lv' := [(5, .int 0), (4, .int 1), (3, .ref o), (2, .ref y), (1, .ref x), (0, .ref b)]) hx hb dL_law_2895 hl (by decide) rfl (fun ls hl => ?_)
    refine lv_aload_n hx hb dL_law_2897 rfl (lv_at hl 3 rfl) ?_
    refine lv_aload_n hx hb dL_law_2898 rfl (lv_at hl 5 rfl) ?_
    refine lv_iload hx hb dL_law_2899 (lv_at hl 1 rfl) ?_
    refine lv_iconst (v := 1) hx hb dL_law_2901 (by decide) ?_
    refine lv_iadd hx hb dL_law_2902 ?_
    refine va_sld hx hb hX hbl0 hbA hS (by unfold vp_in; decide) dL_law_2903 ?_
    rw [← es1]
    have hR9 := hR.keep (h1 := qs h o (.inl (cy 1, 1, .inr (.inl (vp_updL fo 0 (0 : Int32).toInt64))))) (fun a9 f9 h9 => (qs_ne (fun q => by subst q; have := h9.symm.trans ho; cases this)).trans h9)
    have hRB9 := hRB.keep (h1 := qs h o (.inl (cy 1, 1, .inr (.inl (vp_updL fo 0 (0 : Int32).toInt64))))) (fun a9 f9 h9 => (qs_ne (fun q => by subst q; have := h9.symm.trans ho; cases this)).trans h9)
    have hms9 := (qs_ne (h := h) (a := o) (o := (.inl (cy 1, 1, .inr (.inl (vp_updL fo 0 (0 : Int32).toInt64))))) (fun q => by subst q; have := hms.symm.trans ho; first | cases this | simp at this)).trans hms
    have hmb9 := (qs_ne (h := h) (a := o) (o := (.inl (cy 1, 1, .inr (.inl (vp_updL fo 0 (0 : Int32).toInt64))))) (fun q => by subst q; have := hmb.symm.trans ho; first | cases this | simp at this)).trans hmb
    replace hT := (qs_ne (h := h) (a := o) (o := (.inl (cy 1, 1, .inr (.inl (vp_updL fo 0 (0 : Int32).toInt64))))) (fun q => by subst q; have := hT.symm.trans ho; first | cases this | simp at this)).trans hT
    replace hsl := (qs_ne (h := h) (a := o) (o := (.inl (cy 1, 1, .inr (.inl (vp_updL fo 0 (0 : Int32).toInt64))))) (fun q => by subst q; have := hsl.symm.trans ho; first | cases this | simp at this)).trans hsl
    replace hY := (qs_ne (h := h) (a := o) (o := (.inl (cy 1, 1, .inr (.inl (vp_updL fo 0 (0 : Int32).toInt64))))) (fun q => by subst q; have := hY.symm.trans ho; first | cases this | simp at this)).trans hY
    replace ho : (qs h o (.inl (cy 1, 1, .inr (.inl (vp_updL fo 0 (0 : Int32).toInt64))))) o = some (.inl (cy 1, 1, .inr (.inl (vp_updL fo 0 (0 : Int32).toInt64)))) := qs_self
    refine q_callV (rest := []) C (c_X8_count_0 l D cy N0 (qs h o (.inl (cy 1, 1, .inr (.inl (vp_updL fo 0 (0 : Int32).toInt64))))) y ms_ mb mw od pt fi re rc rs so ot cn la ro gr 0 0 0 (nI 1) (nI 1) 0 f2 g2 s1 hY hms9 hmb9 hR9 hRB9) kX8_count g1480 g1481 rfl g1482 g4 hP hS hY (by first | decide | omega) hl.1 rfl (by decide) (by first | decide | omega) dL_law_2904 (fun q ce E h' H1 locs1 hE => hE.elim) (fun v hh4 H locs hq hP hS => ?_)
    obtain ⟨cd', rfl, rfl, hq⟩ := hq
    rcases hq with ⟨gB, rfl⟩ | ⟨gB, rfl⟩
    · exact absurd gA gB
    · replace hT := (qs_ne (h := (qs h o (.inl (cy 1, 1, .inr (.inl (vp_updL fo 0 (0 : Int32).toInt64)))))) (a := y) (o := (.inr (8, [.ref ms_, .ref mb, .ref mw, .int gr, .int 0, .int 0, .int 0, .ref od, .ref pt, .int 0, .int 0, .ref fi, .ref re, .int (nI 1), .ref rc, .ref rs, .ref so, .ref ot, .ref cn, .ref la, .int (nI 1), .ref ro, .int 0]))) (fun q => by subst q; have := hT.symm.trans hY; first | cases this | simp at this)).trans hT
      replace hsl := (qs_ne (h := (qs h o (.inl (cy 1, 1, .inr (.inl (vp_updL fo 0 (0 : Int32).toInt64)))))) (a := y) (o := (.inr (8, [.ref ms_, .ref mb, .ref mw, .int gr, .int 0, .int 0, .int 0, .ref od, .ref pt, .int 0, .int 0, .ref fi, .ref re, .int (nI 1), .ref rc, .ref rs, .ref so, .ref ot, .ref cn, .ref la, .int (nI 1), .ref ro, .int 0]))) (fun q => by subst q; have := hsl.symm.trans hY; first | cases this | simp at this)).trans hsl
      replace ho := (qs_ne (h := (qs h o (.inl (cy 1, 1, .inr (.inl (vp_updL fo 0 (0 : Int32).toInt64)))))) (a := y) (o := (.inr (8, [.ref ms_, .ref mb, .ref mw, .int gr, .int 0, .int 0, .int 0, .ref od, .ref pt, .int 0, .int 0, .ref fi, .ref re, .int (nI 1), .ref rc, .ref rs, .ref so, .ref ot, .ref cn, .ref la, .int (nI 1), .ref ro, .int 0]))) (fun q => by subst q; have := ho.symm.trans hY; first | cases this | simp at this)).trans ho
      replace hY : (qs (qs h o (.inl (cy 1, 1, .inr (.inl (vp_updL fo 0 (0 : Int32).toInt64))))) y (.inr (8, [.ref ms_, .ref mb, .ref mw, .int gr, .int 0, .int 0, .int 0, .ref od, .ref pt, .int 0, .int 0, .ref fi, .ref re, .int (nI 1), .ref rc, .ref rs, .ref so, .ref ot, .ref cn, .ref la, .int (nI 1), .ref ro, .int 0]))) y = some (.inr (8, [.ref ms_, .ref mb, .ref mw, .int gr, .int 0, .int 0, .int 0, .ref od, .ref pt, .int 0, .int 0, .ref fi, .ref re, .int (nI 1), .ref rc, .ref rs, .ref so, .ref ot, .ref cn, .ref la, .int (nI 1), .ref ro, .int 0])) := qs_self
      refine lv_istore (lv' := [(6, .int 0), (5, .int 0), (4, .int 1), (3, .ref o), (2, .ref y), (1, .ref x), (0, .ref b)]) hx hb dL_law_2907 hl (by decide) rfl (fun ls hl => ?_)
      refine lv_aload_n hx hb dL_law_2909 rfl (lv_at hl 4 rfl) ?_
      refine q_callV (rest := []) C (c_X8_thrown l D cy N0 (qs (qs h o (.inl (cy 1, 1, .inr (.inl (vp_updL fo 0 (0 : Int32).toInt64))))) y (.inr (8, [.ref ms_, .ref mb, .ref mw, .int gr, .int 0, .int 0, .int 0, .ref od, .ref pt, .int 0, .int 0, .ref fi, .ref re, .int (nI 1), .ref rc, .ref rs, .ref so, .ref ot, .ref cn, .ref la, .int (nI 1), .ref ro, .int 0]))) y ms_ mb mw od pt fi re rc rs so ot cn la ro gr 0 0 0 0 0 (nI 1) (nI 1) 0 hY) kX8_thrown g1238 g1239 rfl g1240 g4 hP hS hY (by first | decide | omega) hl.1 rfl (by decide) (by first | decide | omega) dL_law_2910 (fun q ce E h' H1 locs1 hE => hE.elim) (fun v hh5 H locs hq hP hS => ?_)
      obtain ⟨rfl, rfl⟩ := hq
      refine lv_iload hx hb dL_law_2913 (lv_at hl 1 rfl) ?_
      refine lv_icmp_eq (tgt := 2920) hx hb dL_law_2915 (by decide) (fun _ => ?_) (fun c9 => absurd rfl c9)
      refine lv_iload hx hb dL_law_2920 (lv_at hl 1 rfl) ?_
      refine lv_if_ne (tgt := 2937) hx hb dL_law_2922 (by decide) (fun c => absurd rfl c) (fun _ => ?_)
      refine lv_aload_n hx hb dL_law_2925 rfl (lv_at hl 3 rfl) ?_
      refine lv_iconst (v := 0) hx hb dL_law_2926 (by decide) ?_
      refine q_zero0 ?_
      refine q_laldN C hP ho (by omega) (by omega) dL_law_2927 ?_
      refine lv_iload hx hb dL_law_2928 (lv_at hl 0 rfl) ?_
      refine lv_i2l hx hb dL_law_2930 rfl ?_
      refine W.lcmp hx hb dL_law_2931 ?_
      refine lv_if_eq (tgt := 2937) hx hb dL_law_2932 (by decide) (fun _ => ?_) (fun c9 => absurd ((lg_cmp_eq _ _).mpr pk_uLs) c9)
      refine lv_goto (tgt := 2940) hx hb dL_law_2937 (by decide) ?_
      exact kend ls H locs _ _ (by omega) (by omega) hS (lv_sub hl [2, 6] rfl)
