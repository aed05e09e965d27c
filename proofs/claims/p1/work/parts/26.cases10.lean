theorem dL_law_1977 : decode cL_law 1977 = .ok (.aload_n 1, 1) := by decide +kernel
theorem dL_law_1978 : decode cL_law 1978 = .ok (.aload_n 0, 1) := by decide +kernel
theorem dL_law_1979 : decode cL_law 1979 = .ok (.iload 4, 2) := by decide +kernel
theorem dL_law_1981 : decode cL_law 1981 = .ok (.iconst 1, 1) := by decide +kernel
theorem dL_law_1982 : decode cL_law 1982 = .ok (.iadd, 1) := by decide +kernel
theorem dL_law_1983 : decode cL_law 1983 = .ok (.iaload, 1) := by decide +kernel
theorem dL_law_1984 : decode cL_law 1984 = .ok (.aload_n 0, 1) := by decide +kernel
theorem dL_law_1985 : decode cL_law 1985 = .ok (.iload 4, 2) := by decide +kernel
theorem dL_law_1987 : decode cL_law 1987 = .ok (.iconst 2, 1) := by decide +kernel
theorem dL_law_1988 : decode cL_law 1988 = .ok (.iadd, 1) := by decide +kernel
theorem dL_law_1989 : decode cL_law 1989 = .ok (.iaload, 1) := by decide +kernel
theorem dL_law_1990 : decode cL_law 1990 = .ok (.aload_n 0, 1) := by decide +kernel
theorem dL_law_1991 : decode cL_law 1991 = .ok (.iload 4, 2) := by decide +kernel
theorem dL_law_1993 : decode cL_law 1993 = .ok (.iconst 3, 1) := by decide +kernel
theorem dL_law_1994 : decode cL_law 1994 = .ok (.iadd, 1) := by decide +kernel
theorem dL_law_1995 : decode cL_law 1995 = .ok (.iaload, 1) := by decide +kernel
theorem dL_law_1996 : decode cL_law 1996 = .ok (.aload_n 0, 1) := by decide +kernel
theorem dL_law_1997 : decode cL_law 1997 = .ok (.iload 4, 2) := by decide +kernel
theorem dL_law_1999 : decode cL_law 1999 = .ok (.iconst 4, 1) := by decide +kernel
theorem dL_law_2000 : decode cL_law 2000 = .ok (.iadd, 1) := by decide +kernel
theorem dL_law_2001 : decode cL_law 2001 = .ok (.iaload, 1) := by decide +kernel
theorem dL_law_2002 : decode cL_law 2002 = .ok (.i2l, 1) := by decide +kernel
theorem dL_law_2003 : decode cL_law 2003 = .ok (.bipush 32, 2) := by decide +kernel
theorem dL_law_2005 : decode cL_law 2005 = .ok (.lshl, 1) := by decide +kernel
theorem dL_law_2006 : decode cL_law 2006 = .ok (.aload_n 0, 1) := by decide +kernel
theorem dL_law_2007 : decode cL_law 2007 = .ok (.iload 4, 2) := by decide +kernel
theorem dL_law_2009 : decode cL_law 2009 = .ok (.iconst 5, 1) := by decide +kernel
theorem dL_law_2010 : decode cL_law 2010 = .ok (.iadd, 1) := by decide +kernel
theorem dL_law_2011 : decode cL_law 2011 = .ok (.iaload, 1) := by decide +kernel
theorem dL_law_2012 : decode cL_law 2012 = .ok (.i2l, 1) := by decide +kernel
theorem dL_law_2013 : decode cL_law 2013 = .ok (.ldc2_w 161, 3) := by decide +kernel
theorem dL_law_2016 : decode cL_law 2016 = .ok (.land, 1) := by decide +kernel
theorem dL_law_2017 : decode cL_law 2017 = .ok (.lor, 1) := by decide +kernel
theorem dL_law_2018 : decode cL_law 2018 = .ok (.invokestatic 220, 3) := by decide +kernel
theorem dL_law_2021 : decode cL_law 2021 = .ok (.istore 5, 2) := by decide +kernel
theorem dL_law_2023 : decode cL_law 2023 = .ok (.aload_n 2, 1) := by decide +kernel
theorem dL_law_2024 : decode cL_law 2024 = .ok (.aload_n 0, 1) := by decide +kernel
theorem dL_law_2025 : decode cL_law 2025 = .ok (.iload 4, 2) := by decide +kernel
theorem dL_law_2027 : decode cL_law 2027 = .ok (.iconst 1, 1) := by decide +kernel
theorem dL_law_2028 : decode cL_law 2028 = .ok (.iadd, 1) := by decide +kernel
theorem dL_law_2029 : decode cL_law 2029 = .ok (.iaload, 1) := by decide +kernel
theorem dL_law_2030 : decode cL_law 2030 = .ok (.aload_n 0, 1) := by decide +kernel
theorem dL_law_2031 : decode cL_law 2031 = .ok (.iload 4, 2) := by decide +kernel
theorem dL_law_2033 : decode cL_law 2033 = .ok (.iconst 2, 1) := by decide +kernel
theorem dL_law_2034 : decode cL_law 2034 = .ok (.iadd, 1) := by decide +kernel
theorem dL_law_2035 : decode cL_law 2035 = .ok (.iaload, 1) := by decide +kernel
theorem dL_law_2036 : decode cL_law 2036 = .ok (.aload_n 0, 1) := by decide +kernel
theorem dL_law_2037 : decode cL_law 2037 = .ok (.iload 4, 2) := by decide +kernel
theorem dL_law_2039 : decode cL_law 2039 = .ok (.iconst 3, 1) := by decide +kernel
theorem dL_law_2040 : decode cL_law 2040 = .ok (.iadd, 1) := by decide +kernel
theorem dL_law_2041 : decode cL_law 2041 = .ok (.iaload, 1) := by decide +kernel
theorem dL_law_2042 : decode cL_law 2042 = .ok (.aload_n 0, 1) := by decide +kernel
theorem dL_law_2043 : decode cL_law 2043 = .ok (.iload 4, 2) := by decide +kernel
theorem dL_law_2045 : decode cL_law 2045 = .ok (.iconst 4, 1) := by decide +kernel
theorem dL_law_2046 : decode cL_law 2046 = .ok (.iadd, 1) := by decide +kernel
theorem dL_law_2047 : decode cL_law 2047 = .ok (.iaload, 1) := by decide +kernel
theorem dL_law_2048 : decode cL_law 2048 = .ok (.i2l, 1) := by decide +kernel
theorem dL_law_2049 : decode cL_law 2049 = .ok (.bipush 32, 2) := by decide +kernel
theorem dL_law_2051 : decode cL_law 2051 = .ok (.lshl, 1) := by decide +kernel
theorem dL_law_2052 : decode cL_law 2052 = .ok (.aload_n 0, 1) := by decide +kernel
theorem dL_law_2053 : decode cL_law 2053 = .ok (.iload 4, 2) := by decide +kernel
theorem dL_law_2055 : decode cL_law 2055 = .ok (.iconst 5, 1) := by decide +kernel
theorem dL_law_2056 : decode cL_law 2056 = .ok (.iadd, 1) := by decide +kernel
theorem dL_law_2057 : decode cL_law 2057 = .ok (.iaload, 1) := by decide +kernel
theorem dL_law_2058 : decode cL_law 2058 = .ok (.i2l, 1) := by decide +kernel
theorem dL_law_2059 : decode cL_law 2059 = .ok (.ldc2_w 161, 3) := by decide +kernel
theorem dL_law_2062 : decode cL_law 2062 = .ok (.land, 1) := by decide +kernel
theorem dL_law_2063 : decode cL_law 2063 = .ok (.lor, 1) := by decide +kernel
theorem dL_law_2064 : decode cL_law 2064 = .ok (.invokevirtual 223, 3) := by decide +kernel
theorem dL_law_2067 : decode cL_law 2067 = .ok (.aload_n 2, 1) := by decide +kernel
theorem dL_law_2068 : decode cL_law 2068 = .ok (.invokevirtual 147, 3) := by decide +kernel
theorem dL_law_2071 : decode cL_law 2071 = .ok (.iload 5, 2) := by decide +kernel
theorem dL_law_2073 : decode cL_law 2073 = .ok (.if_icmp .eq 5, 3) := by decide +kernel
theorem dL_law_2078 : decode cL_law 2078 = .ok (.goto 862, 3) := by decide +kernel
set_option maxRecDepth 100000 in
set_option maxHeartbeats 4000000 in
theorem lc_map {p : Program} {l : Launch} {e : Env} {mc ms : Nat} {s : State} {m : MethodId} {below : List Frame} {meth : Method} {c : Code} {H : Heap} {locs : List Loc} {cells slots : Nat} {Q : State → Prop} {rt0 : Option FieldType} {nm0 : String} {D : va_G} {cy : Nat → ClassId} {N0 : Nat} {tb : List ExceptionTableEntry} {h : qH} {ls : Array Slot} {b : Nat} {xs : Nat → Int32} {x sl bl kr vr : Nat} {hm ed : Int32} {f g : Nat → Option Nat} {y ms_ mb mw od pt fi re rc rs so ot cn la ro : Nat} {gr : Int32} {f2 g2 : Nat → Option Nat} {o : Nat} {fo : Nat → Int64} (C : qX p l s m #[Value.ref b] meth c RL cL_law 8 rt0 nm0 D cy N0 tb) (hX : va_X b 8 xs s s.heap) (hbl0 : b < s.heap.size) (hbA : ¬ qA N0 b) (hP : qP D N0 h H) (hS : va_S (qA N0) s.heap H locs) (hcm : cells + 20 ≤ mc) (hsm : slots + 200 ≤ ms) (hT : h x = some (.inr (6, [.int hm, .ref sl, .ref bl, .ref kr, .ref vr, .int 0, .int 0, .int ed]))) (hsl : h sl = some (.inl (cy 3, 24, .inr (.inr (.inr (.inr f)))))) (hF : ∀ i, i < 24 → f i = none) (hbl : h bl = some (.inl (cy 2, 4, .inr (.inr (.inr (.inr g)))))) (hB : ∀ j, j < 4 → ∃ (b rw : Nat) (kd ln e2 : Int32) (rt : Option Nat), qBd h g j b rw 0 kd ln e2 rt) (hY : h y = some (.inr (8, [.ref ms_, .ref mb, .ref mw, .int gr, .int 0, .int 0, .int 0, .ref od, .ref pt, .int 0, .int 0, .ref fi, .ref re, .int (nI 1), .ref rc, .ref rs, .ref so, .ref ot, .ref cn, .ref la, .int (nI 1), .ref ro, .int 0]))) (hms : h ms_ = some (.inl (cy 5, 24, .inr (.inr (.inr (.inr f2)))))) (hmb : h mb = some (.inl (cy 5, 4, .inr (.inr (.inr (.inr g2)))))) (hR : qRo h f2 24) (hRB : qRo h g2 4) (ho : h o = some (.inl (cy 1, 1, .inr (.inl fo)))) (hfi : h fi = some (.inl (cy 1, 1024, .inr (.inl (fun _ => 0))))) (hre : h re = some (.inl (cy 0, 1024, .inl (fun _ => 0)))) (hrc : h rc = some (.inl (cy 0, 1024, .inl (fun _ => 0)))) (hso : h so = some (.inl (cy 0, 1024, .inl (fun _ => 0)))) (hot : h ot = some (.inl (cy 0, 1024, .inl (fun _ => 0)))) (hcn : h cn = some (.inl (cy 1, 1024, .inr (.inl (fun _ => 0))))) (hla : h la = some (.inl (cy 1, 1024, .inr (.inl (fun _ => 0))))) (n_so_rc : rc ≠ so) (n_ot_rc : rc ≠ ot) (n_rc_re : re ≠ rc) (n_ot_so : so ≠ ot) (n_so_re : re ≠ so) (n_ot_re : re ≠ ot) (n_la_cn : cn ≠ la) (n_cn_fi : fi ≠ cn) (n_la_fi : fi ≠ la) (n_ms_sl : ms_ ≠ sl) (n_mb_sl : mb ≠ sl) (hl : lv_has ls 8 [(4, .int 1), (3, .ref o), (2, .ref y), (1, .ref x), (0, .ref b)]) (kend : ∀ (ls : Array Slot) (H : Heap) (locs : List Loc) (ce sl : Nat), ce ≤ cells + 20 → sl ≤ slots + 200 → va_S (qA N0) s.heap H locs → lv_has ls 8 [(4, .int 1), (0, .ref b)] → W p l e (qR 2048 84000 mc ms) s m #[Value.ref b] below meth c H locs ce sl Q (F0 m 2940 ls [])) : W p l e (qR 2048 84000 mc ms) s m #[Value.ref b] below meth c H locs cells slots Q (F0 m 1977 ls []) := by
  have hx := C.1
  have hb := C.2.1
  refine lv_aload_n hx hb dL_law_1977 rfl (lv_at hl 3 rfl) ?_
  refine lv_aload_n hx hb dL_law_1978 rfl (lv_at hl 4 rfl) ?_
  refine lv_iload hx hb dL_law_1979 (lv_at hl 0 rfl) ?_
  refine lv_iconst (v := 1) hx hb dL_law_1981 (by decide) ?_
  refine lv_iadd hx hb dL_law_1982 ?_
  refine va_sld hx hb hX hbl0 hbA hS (by unfold vp_in; decide) dL_law_1983 ?_
  refine lv_topi (fun s1 es1 => ?_)
  refine lv_aload_n hx hb dL_law_1984 rfl (lv_at hl 4 rfl) ?_
  refine lv_iload hx hb dL_law_1985 (lv_at hl 0 rfl) ?_
  refine lv_iconst (v := 2) hx hb dL_law_1987 (by decide) ?_
  refine lv_iadd hx hb dL_law_1988 ?_
  refine va_sld hx hb hX hbl0 hbA hS (by unfold vp_in; decide) dL_law_1989 ?_
  refine lv_topi (fun s2 es2 => ?_)
  refine lv_aload_n hx hb dL_law_1990 rfl (lv_at hl 4 rfl) ?_
  refine lv_iload hx hb dL_law_1991 (lv_at hl 0 rfl) ?_
  refine lv_iconst (v := 3) hx hb dL_law_1993 (by decide) ?_
  refine lv_iadd hx hb dL_law_1994 ?_
  refine va_sld hx hb hX hbl0 hbA hS (by unfold vp_in; decide) dL_law_1995 ?_
  refine lv_topi (fun s3 es3 => ?_)
  refine lv_aload_n hx hb dL_law_1996 rfl (lv_at hl 4 rfl) ?_
  refine lv_iload hx hb dL_law_1997 (lv_at hl 0 rfl) ?_
  refine lv_iconst (v := 4) hx hb dL_law_1999 (by decide) ?_
  refine lv_iadd hx hb dL_law_2000 ?_
  refine va_sld hx hb hX hbl0 hbA hS (by unfold vp_in; decide) dL_law_2001 ?_
  refine lv_topi (fun s4 es4 => ?_)
  refine lv_i2l hx hb dL_law_2002 rfl ?_
  refine lv_bipush (v := 32) hx hb dL_law_2003 (by decide) ?_
  refine lv_lshl hx hb dL_law_2005 rfl ?_
  refine lv_aload_n hx hb dL_law_2006 rfl (lv_at hl 4 rfl) ?_
  refine lv_iload hx hb dL_law_2007 (lv_at hl 0 rfl) ?_
  refine lv_iconst (v := 5) hx hb dL_law_2009 (by decide) ?_
  refine lv_iadd hx hb dL_law_2010 ?_
  refine va_sld hx hb hX hbl0 hbA hS (by unfold vp_in; decide) dL_law_2011 ?_
  refine lv_topi (fun s5 es5 => ?_)
  refine lv_i2l hx hb dL_law_2012 rfl ?_
  refine lv_ldc2 hx hb C.2.2.2.2.1 (C.2.2.2.2.2.1 _ g1484) dL_law_2013 ?_
  refine lv_land hx hb dL_law_2016 ?_
  refine lv_lor hx hb dL_law_2017 ?_
  refine lv_topl (fun q4 eq4 => ?_)
  refine q_callSW (rest := []) C (c_L_map_0 l D cy N0 (h) x sl bl kr vr hm 0 0 ed f s1 s2 s3 q4 hT hsl hF) kwL_map g932 g933 hP hS (by omega) hl.1 rfl (by decide) (by omega) dL_law_2018 (fun v hh1 H locs hq hP hS => ?_)
  obtain ⟨rfl, hq⟩ := hq
  rcases hq with ⟨rfl, gA⟩ | ⟨rfl, gA⟩
  · refine lv_istore (lv' := [(5, .int 1), (4, .int 1), (3, .ref o), (2, .ref y), (1, .ref x), (0, .ref b)]) hx hb dL_law_2021 hl (by decide) rfl (fun ls hl => ?_)
    refine lv_aload_n hx hb dL_law_2023 rfl (lv_at hl 3 rfl) ?_
    refine lv_aload_n hx hb dL_law_2024 rfl (lv_at hl 5 rfl) ?_
    refine lv_iload hx hb dL_law_2025 (lv_at hl 1 rfl) ?_
    refine lv_iconst (v := 1) hx hb dL_law_2027 (by decide) ?_
    refine lv_iadd hx hb dL_law_2028 ?_
    refine va_sld hx hb hX hbl0 hbA hS (by unfold vp_in; decide) dL_law_2029 ?_
    rw [← es1]
    refine lv_aload_n hx hb dL_law_2030 rfl (lv_at hl 5 rfl) ?_
    refine lv_iload hx hb dL_law_2031 (lv_at hl 1 rfl) ?_
    refine lv_iconst (v := 2) hx hb dL_law_2033 (by decide) ?_
    refine lv_iadd hx hb dL_law_2034 ?_
    refine va_sld hx hb hX hbl0 hbA hS (by unfold vp_in; decide) dL_law_2035 ?_
    rw [← es2]
    refine lv_aload_n hx hb dL_law_2036 rfl (lv_at hl 5 rfl) ?_
    refine lv_iload hx hb dL_law_2037 (lv_at hl 1 rfl) ?_
    refine lv_iconst (v := 3) hx hb dL_law_2039 (by decide) ?_
    refine lv_iadd hx hb dL_law_2040 ?_
    refine va_sld hx hb hX hbl0 hbA hS (by unfold vp_in; decide) dL_law_2041 ?_
    rw [← es3]
    refine lv_aload_n hx hb dL_law_2042 rfl (lv_at hl 5 rfl) ?_
    refine lv_iload hx hb dL_law_2043 (lv_at hl 1 rfl) ?_
    refine lv_iconst (v := 4) hx hb dL_law_2045 (by decide) ?_
    refine lv_iadd hx hb dL_law_2046 ?_
    refine va_sld hx hb hX hbl0 hbA hS (by unfold vp_in; decide) dL_law_2047 ?_
    rw [← es4]
    refine lv_i2l hx hb dL_law_2048 rfl ?_
    refine lv_bipush (v := 32) hx hb dL_law_2049 (by decide) ?_
    refine lv_lshl hx hb dL_law_2051 rfl ?_
    refine lv_aload_n hx hb dL_law_2052 rfl (lv_at hl 5 rfl) ?_
    refine lv_iload hx hb dL_law_2053 (lv_at hl 1 rfl) ?_
    refine lv_iconst (v := 5) hx hb dL_law_2055 (by decide) ?_
    refine lv_iadd hx hb dL_law_2056 ?_
    refine va_sld hx hb hX hbl0 hbA hS (by unfold vp_in; decide) dL_law_2057 ?_
    rw [← es5]
    refine lv_i2l hx hb dL_law_2058 rfl ?_
    refine lv_ldc2 hx hb C.2.2.2.2.1 (C.2.2.2.2.2.1 _ g1484) dL_law_2059 ?_
    refine lv_land hx hb dL_law_2062 ?_
    refine lv_lor hx hb dL_law_2063 ?_
    rw [← eq4]
    refine q_callV (rest := []) C (c_X8_map_0 l D cy N0 (h) y ms_ mb mw od pt fi re rc rs so ot cn la ro gr 0 0 0 0 0 (nI 1) (nI 1) 0 f2 g2 s1 s2 s3 q4 hY hms hmb hR hRB) kX8_map g1433 g1434 rfl g1435 g4 hP hS hY (by first | decide | omega) hl.1 rfl (by decide) (by first | decide | omega) dL_law_2064 (fun q ce E h' H1 locs1 hE => hE.elim) (fun v hh2 H locs hq hP hS => ?_)
    obtain ⟨cd', rfl, rfl, hq⟩ := hq
    rcases hq with ⟨gB, rfl⟩ | ⟨gB, rfl⟩
    · replace hT := (qs_ne (h := h) (a := y) (o := (.inr (8, [.ref ms_, .ref mb, .ref mw, .int gr, .int 1, .int 0, .int 0, .ref od, .ref pt, .int 0, .int 0, .ref fi, .ref re, .int (nI 1), .ref rc, .ref rs, .ref so, .ref ot, .ref cn, .ref la, .int (nI 1), .ref ro, .int 0]))) (fun q => by subst q; have := hT.symm.trans hY; first | cases this | simp at this)).trans hT
      replace hsl := (qs_ne (h := h) (a := y) (o := (.inr (8, [.ref ms_, .ref mb, .ref mw, .int gr, .int 1, .int 0, .int 0, .ref od, .ref pt, .int 0, .int 0, .ref fi, .ref re, .int (nI 1), .ref rc, .ref rs, .ref so, .ref ot, .ref cn, .ref la, .int (nI 1), .ref ro, .int 0]))) (fun q => by subst q; have := hsl.symm.trans hY; first | cases this | simp at this)).trans hsl
      replace ho := (qs_ne (h := h) (a := y) (o := (.inr (8, [.ref ms_, .ref mb, .ref mw, .int gr, .int 1, .int 0, .int 0, .ref od, .ref pt, .int 0, .int 0, .ref fi, .ref re, .int (nI 1), .ref rc, .ref rs, .ref so, .ref ot, .ref cn, .ref la, .int (nI 1), .ref ro, .int 0]))) (fun q => by subst q; have := ho.symm.trans hY; first | cases this | simp at this)).trans ho
      replace hY : (qs h y (.inr (8, [.ref ms_, .ref mb, .ref mw, .int gr, .int 1, .int 0, .int 0, .ref od, .ref pt, .int 0, .int 0, .ref fi, .ref re, .int (nI 1), .ref rc, .ref rs, .ref so, .ref ot, .ref cn, .ref la, .int (nI 1), .ref ro, .int 0]))) y = some (.inr (8, [.ref ms_, .ref mb, .ref mw, .int gr, .int 1, .int 0, .int 0, .ref od, .ref pt, .int 0, .int 0, .ref fi, .ref re, .int (nI 1), .ref rc, .ref rs, .ref so, .ref ot, .ref cn, .ref la, .int (nI 1), .ref ro, .int 0])) := qs_self
      refine lv_aload_n hx hb dL_law_2067 rfl (lv_at hl 3 rfl) ?_
      refine q_callV (rest := []) C (c_X8_thrown l D cy N0 (qs h y (.inr (8, [.ref ms_, .ref mb, .ref mw, .int gr, .int 1, .int 0, .int 0, .ref od, .ref pt, .int 0, .int 0, .ref fi, .ref re, .int (nI 1), .ref rc, .ref rs, .ref so, .ref ot, .ref cn, .ref la, .int (nI 1), .ref ro, .int 0]))) y ms_ mb mw od pt fi re rc rs so ot cn la ro gr 1 0 0 0 0 (nI 1) (nI 1) 0 hY) kX8_thrown g1238 g1239 rfl g1240 g4 hP hS hY (by first | decide | omega) hl.1 rfl (by decide) (by first | decide | omega) dL_law_2068 (fun q ce E h' H1 locs1 hE => hE.elim) (fun v hh3 H locs hq hP hS => ?_)
      obtain ⟨rfl, rfl⟩ := hq
      refine lv_iload hx hb dL_law_2071 (lv_at hl 0 rfl) ?_
      refine lv_icmp_eq (tgt := 2078) hx hb dL_law_2073 (by decide) (fun _ => ?_) (fun c9 => absurd rfl c9)
      refine lv_goto (tgt := 2940) hx hb dL_law_2078 (by decide) ?_
      exact kend ls H locs _ _ (by omega) (by omega) hS (lv_sub hl [1, 5] rfl)
    · exact absurd gB gA
  · refine lv_istore (lv' := [(5, .int 2), (4, .int 1), (3, .ref o), (2, .ref y), (1, .ref x), (0, .ref b)]) hx hb dL_law_2021 hl (by decide) rfl (fun ls hl => ?_)
    refine lv_aload_n hx hb dL_law_2023 rfl (lv_at hl 3 rfl) ?_
    refine lv_aload_n hx hb dL_law_2024 rfl (lv_at hl 5 rfl) ?_
    refine lv_iload hx hb dL_law_2025 (lv_at hl 1 rfl) ?_
    refine lv_iconst (v := 1) hx hb dL_law_2027 (by decide) ?_
    refine lv_iadd hx hb dL_law_2028 ?_
    refine va_sld hx hb hX hbl0 hbA hS (by unfold vp_in; decide) dL_law_2029 ?_
    rw [← es1]
    refine lv_aload_n hx hb dL_law_2030 rfl (lv_at hl 5 rfl) ?_
    refine lv_iload hx hb dL_law_2031 (lv_at hl 1 rfl) ?_
    refine lv_iconst (v := 2) hx hb dL_law_2033 (by decide) ?_
    refine lv_iadd hx hb dL_law_2034 ?_
    refine va_sld hx hb hX hbl0 hbA hS (by unfold vp_in; decide) dL_law_2035 ?_
    rw [← es2]
    refine lv_aload_n hx hb dL_law_2036 rfl (lv_at hl 5 rfl) ?_
    refine lv_iload hx hb dL_law_2037 (lv_at hl 1 rfl) ?_
    refine lv_iconst (v := 3) hx hb dL_law_2039 (by decide) ?_
    refine lv_iadd hx hb dL_law_2040 ?_
    refine va_sld hx hb hX hbl0 hbA hS (by unfold vp_in; decide) dL_law_2041 ?_
    rw [← es3]
    refine lv_aload_n hx hb dL_law_2042 rfl (lv_at hl 5 rfl) ?_
    refine lv_iload hx hb dL_law_2043 (lv_at hl 1 rfl) ?_
    refine lv_iconst (v := 4) hx hb dL_law_2045 (by decide) ?_
    refine lv_iadd hx hb dL_law_2046 ?_
    refine va_sld hx hb hX hbl0 hbA hS (by unfold vp_in; decide) dL_law_2047 ?_
    rw [← es4]
    refine lv_i2l hx hb dL_law_2048 rfl ?_
    refine lv_bipush (v := 32) hx hb dL_law_2049 (by decide) ?_
    refine lv_lshl hx hb dL_law_2051 rfl ?_
    refine lv_aload_n hx hb dL_law_2052 rfl (lv_at hl 5 rfl) ?_
    refine lv_iload hx hb dL_law_2053 (lv_at hl 1 rfl) ?_
    refine lv_iconst (v := 5) hx hb dL_law_2055 (by decide) ?_
    refine lv_iadd hx hb dL_law_2056 ?_
    refine va_sld hx hb hX hbl0 hbA hS (by unfold vp_in; decide) dL_law_2057 ?_
    rw [← es5]
    refine lv_i2l hx hb dL_law_2058 rfl ?_
    refine lv_ldc2 hx hb C.2.2.2.2.1 (C.2.2.2.2.2.1 _ g1484) dL_law_2059 ?_
    refine lv_land hx hb dL_law_2062 ?_
    refine lv_lor hx hb dL_law_2063 ?_
    rw [← eq4]
    refine q_callV (rest := []) C (c_X8_map_0 l D cy N0 (h) y ms_ mb mw od pt fi re rc rs so ot cn la ro gr 0 0 0 0 0 (nI 1) (nI 1) 0 f2 g2 s1 s2 s3 q4 hY hms hmb hR hRB) kX8_map g1433 g1434 rfl g1435 g4 hP hS hY (by first | decide | omega) hl.1 rfl (by decide) (by first | decide | omega) dL_law_2064 (fun q ce E h' H1 locs1 hE => hE.elim) (fun v hh4 H locs hq hP hS => ?_)
    obtain ⟨cd', rfl, rfl, hq⟩ := hq
    rcases hq with ⟨gB, rfl⟩ | ⟨gB, rfl⟩
    · exact absurd gA gB
    · replace hT := (qs_ne (h := h) (a := y) (o := (.inr (8, [.ref ms_, .ref mb, .ref mw, .int gr, .int 2, .int 0, .int 0, .ref od, .ref pt, .int 0, .int 0, .ref fi, .ref re, .int (nI 1), .ref rc, .ref rs, .ref so, .ref ot, .ref cn, .ref la, .int (nI 1), .ref ro, .int 0]))) (fun q => by subst q; have := hT.symm.trans hY; first | cases this | simp at this)).trans hT
      replace hsl := (qs_ne (h := h) (a := y) (o := (.inr (8, [.ref ms_, .ref mb, .ref mw, .int gr, .int 2, .int 0, .int 0, .ref od, .ref pt, .int 0, .int 0, .ref fi, .ref re, .int (nI 1), .ref rc, .ref rs, .ref so, .ref ot, .ref cn, .ref la, .int (nI 1), .ref ro, .int 0]))) (fun q => by subst q; have := hsl.symm.trans hY; first | cases this | simp at this)).trans hsl
      replace ho := (qs_ne (h := h) (a := y) (o := (.inr (8, [.ref ms_, .ref mb, .ref mw, .int gr, .int 2, .int 0, .int 0, .ref od, .ref pt, .int 0, .int 0, .ref fi, .ref re, .int (nI 1), .ref rc, .ref rs, .ref so, .ref ot, .ref cn, .ref la, .int (nI 1), .ref ro, .int 0]))) (fun q => by subst q; have := ho.symm.trans hY; first | cases this | simp at this)).trans ho
      replace hY : (qs h y (.inr (8, [.ref ms_, .ref mb, .ref mw, .int gr, .int 2, .int 0, .int 0, .ref od, .ref pt, .int 0, .int 0, .ref fi, .ref re, .int (nI 1), .ref rc, .ref rs, .ref so, .ref ot, .ref cn, .ref la, .int (nI 1), .ref ro, .int 0]))) y = some (.inr (8, [.ref ms_, .ref mb, .ref mw, .int gr, .int 2, .int 0, .int 0, .ref od, .ref pt, .int 0, .int 0, .ref fi, .ref re, .int (nI 1), .ref rc, .ref rs, .ref so, .ref ot, .ref cn, .ref la, .int (nI 1), .ref ro, .int 0])) := qs_self
      refine lv_aload_n hx hb dL_law_2067 rfl (lv_at hl 3 rfl) ?_
      refine q_callV (rest := []) C (c_X8_thrown l D cy N0 (qs h y (.inr (8, [.ref ms_, .ref mb, .ref mw, .int gr, .int 2, .int 0, .int 0, .ref od, .ref pt, .int 0, .int 0, .ref fi, .ref re, .int (nI 1), .ref rc, .ref rs, .ref so, .ref ot, .ref cn, .ref la, .int (nI 1), .ref ro, .int 0]))) y ms_ mb mw od pt fi re rc rs so ot cn la ro gr 2 0 0 0 0 (nI 1) (nI 1) 0 hY) kX8_thrown g1238 g1239 rfl g1240 g4 hP hS hY (by first | decide | omega) hl.1 rfl (by decide) (by first | decide | omega) dL_law_2068 (fun q ce E h' H1 locs1 hE => hE.elim) (fun v hh5 H locs hq hP hS => ?_)
      obtain ⟨rfl, rfl⟩ := hq
      refine lv_iload hx hb dL_law_2071 (lv_at hl 0 rfl) ?_
      refine lv_icmp_eq (tgt := 2078) hx hb dL_law_2073 (by decide) (fun _ => ?_) (fun c9 => absurd rfl c9)
      refine lv_goto (tgt := 2940) hx hb dL_law_2078 (by decide) ?_
      exact kend ls H locs _ _ (by omega) (by omega) hS (lv_sub hl [1, 5] rfl)

theorem dL_law_2081 : decode cL_law 2081 = .ok (.aload_n 1, 1) := by decide +kernel
theorem dL_law_2082 : decode cL_law 2082 = .ok (.aload_n 0, 1) := by decide +kernel
theorem dL_law_2083 : decode cL_law 2083 = .ok (.iload 4, 2) := by decide +kernel
theorem dL_law_2085 : decode cL_law 2085 = .ok (.iconst 1, 1) := by decide +kernel
theorem dL_law_2086 : decode cL_law 2086 = .ok (.iadd, 1) := by decide +kernel
theorem dL_law_2087 : decode cL_law 2087 = .ok (.iaload, 1) := by decide +kernel
theorem dL_law_2088 : decode cL_law 2088 = .ok (.aload_n 0, 1) := by decide +kernel
theorem dL_law_2089 : decode cL_law 2089 = .ok (.iload 4, 2) := by decide +kernel
theorem dL_law_2091 : decode cL_law 2091 = .ok (.iconst 2, 1) := by decide +kernel
theorem dL_law_2092 : decode cL_law 2092 = .ok (.iadd, 1) := by decide +kernel
theorem dL_law_2093 : decode cL_law 2093 = .ok (.iaload, 1) := by decide +kernel
theorem dL_law_2094 : decode cL_law 2094 = .ok (.aload_n 0, 1) := by decide +kernel
theorem dL_law_2095 : decode cL_law 2095 = .ok (.iload 4, 2) := by decide +kernel
theorem dL_law_2097 : decode cL_law 2097 = .ok (.iconst 3, 1) := by decide +kernel
theorem dL_law_2098 : decode cL_law 2098 = .ok (.iadd, 1) := by decide +kernel
theorem dL_law_2099 : decode cL_law 2099 = .ok (.iaload, 1) := by decide +kernel
theorem dL_law_2100 : decode cL_law 2100 = .ok (.aload_n 0, 1) := by decide +kernel
theorem dL_law_2101 : decode cL_law 2101 = .ok (.iload 4, 2) := by decide +kernel
theorem dL_law_2103 : decode cL_law 2103 = .ok (.iconst 4, 1) := by decide +kernel
theorem dL_law_2104 : decode cL_law 2104 = .ok (.iadd, 1) := by decide +kernel
theorem dL_law_2105 : decode cL_law 2105 = .ok (.iaload, 1) := by decide +kernel
theorem dL_law_2106 : decode cL_law 2106 = .ok (.i2l, 1) := by decide +kernel
theorem dL_law_2107 : decode cL_law 2107 = .ok (.bipush 32, 2) := by decide +kernel
theorem dL_law_2109 : decode cL_law 2109 = .ok (.lshl, 1) := by decide +kernel
theorem dL_law_2110 : decode cL_law 2110 = .ok (.aload_n 0, 1) := by decide +kernel
theorem dL_law_2111 : decode cL_law 2111 = .ok (.iload 4, 2) := by decide +kernel
theorem dL_law_2113 : decode cL_law 2113 = .ok (.iconst 5, 1) := by decide +kernel
theorem dL_law_2114 : decode cL_law 2114 = .ok (.iadd, 1) := by decide +kernel
theorem dL_law_2115 : decode cL_law 2115 = .ok (.iaload, 1) := by decide +kernel
theorem dL_law_2116 : decode cL_law 2116 = .ok (.i2l, 1) := by decide +kernel
theorem dL_law_2117 : decode cL_law 2117 = .ok (.ldc2_w 161, 3) := by decide +kernel
theorem dL_law_2120 : decode cL_law 2120 = .ok (.land, 1) := by decide +kernel
theorem dL_law_2121 : decode cL_law 2121 = .ok (.lor, 1) := by decide +kernel
theorem dL_law_2122 : decode cL_law 2122 = .ok (.invokestatic 224, 3) := by decide +kernel
theorem dL_law_2125 : decode cL_law 2125 = .ok (.istore 5, 2) := by decide +kernel
theorem dL_law_2127 : decode cL_law 2127 = .ok (.aload_n 2, 1) := by decide +kernel
theorem dL_law_2128 : decode cL_law 2128 = .ok (.aload_n 0, 1) := by decide +kernel
theorem dL_law_2129 : decode cL_law 2129 = .ok (.iload 4, 2) := by decide +kernel
theorem dL_law_2131 : decode cL_law 2131 = .ok (.iconst 1, 1) := by decide +kernel
theorem dL_law_2132 : decode cL_law 2132 = .ok (.iadd, 1) := by decide +kernel
theorem dL_law_2133 : decode cL_law 2133 = .ok (.iaload, 1) := by decide +kernel
theorem dL_law_2134 : decode cL_law 2134 = .ok (.aload_n 0, 1) := by decide +kernel
theorem dL_law_2135 : decode cL_law 2135 = .ok (.iload 4, 2) := by decide +kernel
theorem dL_law_2137 : decode cL_law 2137 = .ok (.iconst 2, 1) := by decide +kernel
theorem dL_law_2138 : decode cL_law 2138 = .ok (.iadd, 1) := by decide +kernel
theorem dL_law_2139 : decode cL_law 2139 = .ok (.iaload, 1) := by decide +kernel
theorem dL_law_2140 : decode cL_law 2140 = .ok (.aload_n 0, 1) := by decide +kernel
theorem dL_law_2141 : decode cL_law 2141 = .ok (.iload 4, 2) := by decide +kernel
theorem dL_law_2143 : decode cL_law 2143 = .ok (.iconst 3, 1) := by decide +kernel
theorem dL_law_2144 : decode cL_law 2144 = .ok (.iadd, 1) := by decide +kernel
theorem dL_law_2145 : decode cL_law 2145 = .ok (.iaload, 1) := by decide +kernel
theorem dL_law_2146 : decode cL_law 2146 = .ok (.aload_n 0, 1) := by decide +kernel
theorem dL_law_2147 : decode cL_law 2147 = .ok (.iload 4, 2) := by decide +kernel
theorem dL_law_2149 : decode cL_law 2149 = .ok (.iconst 4, 1) := by decide +kernel
theorem dL_law_2150 : decode cL_law 2150 = .ok (.iadd, 1) := by decide +kernel
theorem dL_law_2151 : decode cL_law 2151 = .ok (.iaload, 1) := by decide +kernel
theorem dL_law_2152 : decode cL_law 2152 = .ok (.i2l, 1) := by decide +kernel
theorem dL_law_2153 : decode cL_law 2153 = .ok (.bipush 32, 2) := by decide +kernel
theorem dL_law_2155 : decode cL_law 2155 = .ok (.lshl, 1) := by decide +kernel
theorem dL_law_2156 : decode cL_law 2156 = .ok (.aload_n 0, 1) := by decide +kernel
theorem dL_law_2157 : decode cL_law 2157 = .ok (.iload 4, 2) := by decide +kernel
theorem dL_law_2159 : decode cL_law 2159 = .ok (.iconst 5, 1) := by decide +kernel
theorem dL_law_2160 : decode cL_law 2160 = .ok (.iadd, 1) := by decide +kernel
theorem dL_law_2161 : decode cL_law 2161 = .ok (.iaload, 1) := by decide +kernel
theorem dL_law_2162 : decode cL_law 2162 = .ok (.i2l, 1) := by decide +kernel
theorem dL_law_2163 : decode cL_law 2163 = .ok (.ldc2_w 161, 3) := by decide +kernel
theorem dL_law_2166 : decode cL_law 2166 = .ok (.land, 1) := by decide +kernel
theorem dL_law_2167 : decode cL_law 2167 = .ok (.lor, 1) := by decide +kernel
theorem dL_law_2168 : decode cL_law 2168 = .ok (.invokevirtual 226, 3) := by decide +kernel
theorem dL_law_2171 : decode cL_law 2171 = .ok (.aload_n 2, 1) := by decide +kernel
theorem dL_law_2172 : decode cL_law 2172 = .ok (.invokevirtual 147, 3) := by decide +kernel
theorem dL_law_2175 : decode cL_law 2175 = .ok (.iload 5, 2) := by decide +kernel
theorem dL_law_2177 : decode cL_law 2177 = .ok (.if_icmp .eq 5, 3) := by decide +kernel
theorem dL_law_2182 : decode cL_law 2182 = .ok (.goto 758, 3) := by decide +kernel
set_option maxRecDepth 100000 in
set_option maxHeartbeats 4000000 in
theorem lc_filter {p : Program} {l : Launch} {e : Env} {mc ms : Nat} {s : State} {m : MethodId} {below : List Frame} {meth : Method} {c : Code} {H : Heap} {locs : List Loc} {cells slots : Nat} {Q : State → Prop} {rt0 : Option FieldType} {nm0 : String} {D : va_G} {cy : Nat → ClassId} {N0 : Nat} {tb : List ExceptionTableEntry} {h : qH} {ls : Array Slot} {b : Nat} {xs : Nat → Int32} {x sl bl kr vr : Nat} {hm ed : Int32} {f g : Nat → Option Nat} {y ms_ mb mw od pt fi re rc rs so ot cn la ro : Nat} {gr : Int32} {f2 g2 : Nat → Option Nat} {o : Nat} {fo : Nat → Int64} (C : qX p l s m #[Value.ref b] meth c RL cL_law 8 rt0 nm0 D cy N0 tb) (hX : va_X b 8 xs s s.heap) (hbl0 : b < s.heap.size) (hbA : ¬ qA N0 b) (hP : qP D N0 h H) (hS : va_S (qA N0) s.heap H locs) (hcm : cells + 20 ≤ mc) (hsm : slots + 200 ≤ ms) (hT : h x = some (.inr (6, [.int hm, .ref sl, .ref bl, .ref kr, .ref vr, .int 0, .int 0, .int ed]))) (hsl : h sl = some (.inl (cy 3, 24, .inr (.inr (.inr (.inr f)))))) (hF : ∀ i, i < 24 → f i = none) (hbl : h bl = some (.inl (cy 2, 4, .inr (.inr (.inr (.inr g)))))) (hB : ∀ j, j < 4 → ∃ (b rw : Nat) (kd ln e2 : Int32) (rt : Option Nat), qBd h g j b rw 0 kd ln e2 rt) (hY : h y = some (.inr (8, [.ref ms_, .ref mb, .ref mw, .int gr, .int 0, .int 0, .int 0, .ref od, .ref pt, .int 0, .int 0, .ref fi, .ref re, .int (nI 1), .ref rc, .ref rs, .ref so, .ref ot, .ref cn, .ref la, .int (nI 1), .ref ro, .int 0]))) (hms : h ms_ = some (.inl (cy 5, 24, .inr (.inr (.inr (.inr f2)))))) (hmb : h mb = some (.inl (cy 5, 4, .inr (.inr (.inr (.inr g2)))))) (hR : qRo h f2 24) (hRB : qRo h g2 4) (ho : h o = some (.inl (cy 1, 1, .inr (.inl fo)))) (hfi : h fi = some (.inl (cy 1, 1024, .inr (.inl (fun _ => 0))))) (hre : h re = some (.inl (cy 0, 1024, .inl (fun _ => 0)))) (hrc : h rc = some (.inl (cy 0, 1024, .inl (fun _ => 0)))) (hso : h so = some (.inl (cy 0, 1024, .inl (fun _ => 0)))) (hot : h ot = some (.inl (cy 0, 1024, .inl (fun _ => 0)))) (hcn : h cn = some (.inl (cy 1, 1024, .inr (.inl (fun _ => 0))))) (hla : h la = some (.inl (cy 1, 1024, .inr (.inl (fun _ => 0))))) (n_so_rc : rc ≠ so) (n_ot_rc : rc ≠ ot) (n_rc_re : re ≠ rc) (n_ot_so : so ≠ ot) (n_so_re : re ≠ so) (n_ot_re : re ≠ ot) (n_la_cn : cn ≠ la) (n_cn_fi : fi ≠ cn) (n_la_fi : fi ≠ la) (n_ms_sl : ms_ ≠ sl) (n_mb_sl : mb ≠ sl) (hl : lv_has ls 8 [(4, .int 1), (3, .ref o), (2, .ref y), (1, .ref x), (0, .ref b)]) (kend : ∀ (ls : Array Slot) (H : Heap) (locs : List Loc) (ce sl : Nat), ce ≤ cells + 20 → sl ≤ slots + 200 → va_S (qA N0) s.heap H locs → lv_has ls 8 [(4, .int 1), (0, .ref b)] → W p l e (qR 2048 84000 mc ms) s m #[Value.ref b] below meth c H locs ce sl Q (F0 m 2940 ls [])) : W p l e (qR 2048 84000 mc ms) s m #[Value.ref b] below meth c H locs cells slots Q (F0 m 2081 ls []) := by
  have hx := C.1
  have hb := C.2.1
  refine lv_aload_n hx hb dL_law_2081 rfl (lv_at hl 3 rfl) ?_
  refine lv_aload_n hx hb dL_law_2082 rfl (lv_at hl 4 rfl) ?_
  refine lv_iload hx hb dL_law_2083 (lv_at hl 0 rfl) ?_
  refine lv_iconst (v := 1) hx hb dL_law_2085 (by decide) ?_
  refine lv_iadd hx hb dL_law_2086 ?_
  refine va_sld hx hb hX hbl0 hbA hS (by unfold vp_in; decide) dL_law_2087 ?_
  refine lv_topi (fun s1 es1 => ?_)
  refine lv_aload_n hx hb dL_law_2088 rfl (lv_at hl 4 rfl) ?_
  refine lv_iload hx hb dL_law_2089 (lv_at hl 0 rfl) ?_
  refine lv_iconst (v := 2) hx hb dL_law_2091 (by decide) ?_
  refine lv_iadd hx hb dL_law_2092 ?_
  refine va_sld hx hb hX hbl0 hbA hS (by unfold vp_in; decide) dL_law_2093 ?_
  refine lv_topi (fun s2 es2 => ?_)
  refine lv_aload_n hx hb dL_law_2094 rfl (lv_at hl 4 rfl) ?_
  refine lv_iload hx hb dL_law_2095 (lv_at hl 0 rfl) ?_
  refine lv_iconst (v := 3) hx hb dL_law_2097 (by decide) ?_
  refine lv_iadd hx hb dL_law_2098 ?_
  refine va_sld hx hb hX hbl0 hbA hS (by unfold vp_in; decide) dL_law_2099 ?_
  refine lv_topi (fun s3 es3 => ?_)
  refine lv_aload_n hx hb dL_law_2100 rfl (lv_at hl 4 rfl) ?_
  refine lv_iload hx hb dL_law_2101 (lv_at hl 0 rfl) ?_
  refine lv_iconst (v := 4) hx hb dL_law_2103 (by decide) ?_
  refine lv_iadd hx hb dL_law_2104 ?_
  refine va_sld hx hb hX hbl0 hbA hS (by unfold vp_in; decide) dL_law_2105 ?_
  refine lv_topi (fun s4 es4 => ?_)
  refine lv_i2l hx hb dL_law_2106 rfl ?_
  refine lv_bipush (v := 32) hx hb dL_law_2107 (by decide) ?_
  refine lv_lshl hx hb dL_law_2109 rfl ?_
  refine lv_aload_n hx hb dL_law_2110 rfl (lv_at hl 4 rfl) ?_
  refine lv_iload hx hb dL_law_2111 (lv_at hl 0 rfl) ?_
  refine lv_iconst (v := 5) hx hb dL_law_2113 (by decide) ?_
  refine lv_iadd hx hb dL_law_2114 ?_
  refine va_sld hx hb hX hbl0 hbA hS (by unfold vp_in; decide) dL_law_2115 ?_
  refine lv_topi (fun s5 es5 => ?_)
  refine lv_i2l hx hb dL_law_2116 rfl ?_
  refine lv_ldc2 hx hb C.2.2.2.2.1 (C.2.2.2.2.2.1 _ g1484) dL_law_2117 ?_
  refine lv_land hx hb dL_law_2120 ?_
  refine lv_lor hx hb dL_law_2121 ?_
  refine lv_topl (fun q4 eq4 => ?_)
  refine q_callSW (rest := []) C (c_L_filter_0 l D cy N0 (h) x sl bl kr vr hm 0 0 ed f s1 s2 s3 q4 hT hsl hF) kwL_filter g947 g948 hP hS (by omega) hl.1 rfl (by decide) (by omega) dL_law_2122 (fun v hh1 H locs hq hP hS => ?_)
  obtain ⟨rfl, hq⟩ := hq
  rcases hq with ⟨rfl, gA⟩ | ⟨rfl, gA⟩
  · refine lv_istore (lv' := [(5, .int 1), (4, .int 1), (3, .ref o), (2, .ref y), (1, .ref x), (0, .ref b)]) hx hb dL_law_2125 hl (by decide) rfl (fun ls hl => ?_)
    refine lv_aload_n hx hb dL_law_2127 rfl (lv_at hl 3 rfl) ?_
    refine lv_aload_n hx hb dL_law_2128 rfl (lv_at hl 5 rfl) ?_
    refine lv_iload hx hb dL_law_2129 (lv_at hl 1 rfl) ?_
    refine lv_iconst (v := 1) hx hb dL_law_2131 (by decide) ?_
    refine lv_iadd hx hb dL_law_2132 ?_
    refine va_sld hx hb hX hbl0 hbA hS (by unfold vp_in; decide) dL_law_2133 ?_
    rw [← es1]
    refine lv_aload_n hx hb dL_law_2134 rfl (lv_at hl 5 rfl) ?_
    refine lv_iload hx hb dL_law_2135 (lv_at hl 1 rfl) ?_
    refine lv_iconst (v := 2) hx hb dL_law_2137 (by decide) ?_
    refine lv_iadd hx hb dL_law_2138 ?_
    refine va_sld hx hb hX hbl0 hbA hS (by unfold vp_in; decide) dL_law_2139 ?_
    rw [← es2]
    refine lv_aload_n hx hb dL_law_2140 rfl (lv_at hl 5 rfl) ?_
    refine lv_iload hx hb dL_law_2141 (lv_at hl 1 rfl) ?_
    refine lv_iconst (v := 3) hx hb dL_law_2143 (by decide) ?_
    refine lv_iadd hx hb dL_law_2144 ?_
    refine va_sld hx hb hX hbl0 hbA hS (by unfold vp_in; decide) dL_law_2145 ?_
    rw [← es3]
    refine lv_aload_n hx hb dL_law_2146 rfl (lv_at hl 5 rfl) ?_
    refine lv_iload hx hb dL_law_2147 (lv_at hl 1 rfl) ?_
    refine lv_iconst (v := 4) hx hb dL_law_2149 (by decide) ?_
    refine lv_iadd hx hb dL_law_2150 ?_
    refine va_sld hx hb hX hbl0 hbA hS (by unfold vp_in; decide) dL_law_2151 ?_
    rw [← es4]
    refine lv_i2l hx hb dL_law_2152 rfl ?_
    refine lv_bipush (v := 32) hx hb dL_law_2153 (by decide) ?_
    refine lv_lshl hx hb dL_law_2155 rfl ?_
    refine lv_aload_n hx hb dL_law_2156 rfl (lv_at hl 5 rfl) ?_
    refine lv_iload hx hb dL_law_2157 (lv_at hl 1 rfl) ?_
    refine lv_iconst (v := 5) hx hb dL_law_2159 (by decide) ?_
    refine lv_iadd hx hb dL_law_2160 ?_
    refine va_sld hx hb hX hbl0 hbA hS (by unfold vp_in; decide) dL_law_2161 ?_
    rw [← es5]
    refine lv_i2l hx hb dL_law_2162 rfl ?_
    refine lv_ldc2 hx hb C.2.2.2.2.1 (C.2.2.2.2.2.1 _ g1484) dL_law_2163 ?_
    refine lv_land hx hb dL_law_2166 ?_
    refine lv_lor hx hb dL_law_2167 ?_
    rw [← eq4]
    refine q_callV (rest := []) C (c_X8_filter_0 l D cy N0 (h) y ms_ mb mw od pt fi re rc rs so ot cn la ro gr 0 0 0 0 0 (nI 1) (nI 1) 0 f2 g2 s1 s2 s3 q4 hY hms hmb hR hRB) kX8_filter g1437 g1438 rfl g1439 g4 hP hS hY (by first | decide | omega) hl.1 rfl (by decide) (by first | decide | omega) dL_law_2168 (fun q ce E h' H1 locs1 hE => hE.elim) (fun v hh2 H locs hq hP hS => ?_)
    obtain ⟨cd', rfl, rfl, hq⟩ := hq
    rcases hq with ⟨gB, rfl⟩ | ⟨gB, rfl⟩
    · replace hT := (qs_ne (h := h) (a := y) (o := (.inr (8, [.ref ms_, .ref mb, .ref mw, .int gr, .int 1, .int 0, .int 0, .ref od, .ref pt, .int 0, .int 0, .ref fi, .ref re, .int (nI 1), .ref rc, .ref rs, .ref so, .ref ot, .ref cn, .ref la, .int (nI 1), .ref ro, .int 0]))) (fun q => by subst q; have := hT.symm.trans hY; first | cases this | simp at this)).trans hT
      replace hsl := (qs_ne (h := h) (a := y) (o := (.inr (8, [.ref ms_, .ref mb, .ref mw, .int gr, .int 1, .int 0, .int 0, .ref od, .ref pt, .int 0, .int 0, .ref fi, .ref re, .int (nI 1), .ref rc, .ref rs, .ref so, .ref ot, .ref cn, .ref la, .int (nI 1), .ref ro, .int 0]))) (fun q => by subst q; have := hsl.symm.trans hY; first | cases this | simp at this)).trans hsl
      replace ho := (qs_ne (h := h) (a := y) (o := (.inr (8, [.ref ms_, .ref mb, .ref mw, .int gr, .int 1, .int 0, .int 0, .ref od, .ref pt, .int 0, .int 0, .ref fi, .ref re, .int (nI 1), .ref rc, .ref rs, .ref so, .ref ot, .ref cn, .ref la, .int (nI 1), .ref ro, .int 0]))) (fun q => by subst q; have := ho.symm.trans hY; first | cases this | simp at this)).trans ho
      replace hY : (qs h y (.inr (8, [.ref ms_, .ref mb, .ref mw, .int gr, .int 1, .int 0, .int 0, .ref od, .ref pt, .int 0, .int 0, .ref fi, .ref re, .int (nI 1), .ref rc, .ref rs, .ref so, .ref ot, .ref cn, .ref la, .int (nI 1), .ref ro, .int 0]))) y = some (.inr (8, [.ref ms_, .ref mb, .ref mw, .int gr, .int 1, .int 0, .int 0, .ref od, .ref pt, .int 0, .int 0, .ref fi, .ref re, .int (nI 1), .ref rc, .ref rs, .ref so, .ref ot, .ref cn, .ref la, .int (nI 1), .ref ro, .int 0])) := qs_self
      refine lv_aload_n hx hb dL_law_2171 rfl (lv_at hl 3 rfl) ?_
      refine q_callV (rest := []) C (c_X8_thrown l D cy N0 (qs h y (.inr (8, [.ref ms_, .ref mb, .ref mw, .int gr, .int 1, .int 0, .int 0, .ref od, .ref pt, .int 0, .int 0, .ref fi, .ref re, .int (nI 1), .ref rc, .ref rs, .ref so, .ref ot, .ref cn, .ref la, .int (nI 1), .ref ro, .int 0]))) y ms_ mb mw od pt fi re rc rs so ot cn la ro gr 1 0 0 0 0 (nI 1) (nI 1) 0 hY) kX8_thrown g1238 g1239 rfl g1240 g4 hP hS hY (by first | decide | omega) hl.1 rfl (by decide) (by first | decide | omega) dL_law_2172 (fun q ce E h' H1 locs1 hE => hE.elim) (fun v hh3 H locs hq hP hS => ?_)
      obtain ⟨rfl, rfl⟩ := hq
      refine lv_iload hx hb dL_law_2175 (lv_at hl 0 rfl) ?_
      refine lv_icmp_eq (tgt := 2182) hx hb dL_law_2177 (by decide) (fun _ => ?_) (fun c9 => absurd rfl c9)
      refine lv_goto (tgt := 2940) hx hb dL_law_2182 (by decide) ?_
      exact kend ls H locs _ _ (by omega) (by omega) hS (lv_sub hl [1, 5] rfl)
    · exact absurd gB gA
  · refine lv_istore (lv' := [(5, .int 2), (4, .int 1), (3, .ref o), (2, .ref y), (1, .ref x), (0, .ref b)]) hx hb dL_law_2125 hl (by decide) rfl (fun ls hl => ?_)
    refine lv_aload_n hx hb dL_law_2127 rfl (lv_at hl 3 rfl) ?_
    refine lv_aload_n hx hb dL_law_2128 rfl (lv_at hl 5 rfl) ?_
    refine lv_iload hx hb dL_law_2129 (lv_at hl 1 rfl) ?_
    refine lv_iconst (v := 1) hx hb dL_law_2131 (by decide) ?_
    refine lv_iadd hx hb dL_law_2132 ?_
    refine va_sld hx hb hX hbl0 hbA hS (by unfold vp_in; decide) dL_law_2133 ?_
    rw [← es1]
    refine lv_aload_n hx hb dL_law_2134 rfl (lv_at hl 5 rfl) ?_
    refine lv_iload hx hb dL_law_2135 (lv_at hl 1 rfl) ?_
    refine lv_iconst (v := 2) hx hb dL_law_2137 (by decide) ?_
    refine lv_iadd hx hb dL_law_2138 ?_
    refine va_sld hx hb hX hbl0 hbA hS (by unfold vp_in; decide) dL_law_2139 ?_
    rw [← es2]
    refine lv_aload_n hx hb dL_law_2140 rfl (lv_at hl 5 rfl) ?_
    refine lv_iload hx hb dL_law_2141 (lv_at hl 1 rfl) ?_
    refine lv_iconst (v := 3) hx hb dL_law_2143 (by decide) ?_
    refine lv_iadd hx hb dL_law_2144 ?_
    refine va_sld hx hb hX hbl0 hbA hS (by unfold vp_in; decide) dL_law_2145 ?_
    rw [← es3]
    refine lv_aload_n hx hb dL_law_2146 rfl (lv_at hl 5 rfl) ?_
    refine lv_iload hx hb dL_law_2147 (lv_at hl 1 rfl) ?_
    refine lv_iconst (v := 4) hx hb dL_law_2149 (by decide) ?_
    refine lv_iadd hx hb dL_law_2150 ?_
    refine va_sld hx hb hX hbl0 hbA hS (by unfold vp_in; decide) dL_law_2151 ?_
    rw [← es4]
    refine lv_i2l hx hb dL_law_2152 rfl ?_
    refine lv_bipush (v := 32) hx hb dL_law_2153 (by decide) ?_
    refine lv_lshl hx hb dL_law_2155 rfl ?_
    refine lv_aload_n hx hb dL_law_2156 rfl (lv_at hl 5 rfl) ?_
    refine lv_iload hx hb dL_law_2157 (lv_at hl 1 rfl) ?_
    refine lv_iconst (v := 5) hx hb dL_law_2159 (by decide) ?_
    refine lv_iadd hx hb dL_law_2160 ?_
    refine va_sld hx hb hX hbl0 hbA hS (by unfold vp_in; decide) dL_law_2161 ?_
    rw [← es5]
    refine lv_i2l hx hb dL_law_2162 rfl ?_
    refine lv_ldc2 hx hb C.2.2.2.2.1 (C.2.2.2.2.2.1 _ g1484) dL_law_2163 ?_
    refine lv_land hx hb dL_law_2166 ?_
    refine lv_lor hx hb dL_law_2167 ?_
    rw [← eq4]
    refine q_callV (rest := []) C (c_X8_filter_0 l D cy N0 (h) y ms_ mb mw od pt fi re rc rs so ot cn la ro gr 0 0 0 0 0 (nI 1) (nI 1) 0 f2 g2 s1 s2 s3 q4 hY hms hmb hR hRB) kX8_filter g1437 g1438 rfl g1439 g4 hP hS hY (by first | decide | omega) hl.1 rfl (by decide) (by first | decide | omega) dL_law_2168 (fun q ce E h' H1 locs1 hE => hE.elim) (fun v hh4 H locs hq hP hS => ?_)
    obtain ⟨cd', rfl, rfl, hq⟩ := hq
    rcases hq with ⟨gB, rfl⟩ | ⟨gB, rfl⟩
    · exact absurd gA gB
    · replace hT := (qs_ne (h := h) (a := y) (o := (.inr (8, [.ref ms_, .ref mb, .ref mw, .int gr, .int 2, .int 0, .int 0, .ref od, .ref pt, .int 0, .int 0, .ref fi, .ref re, .int (nI 1), .ref rc, .ref rs, .ref so, .ref ot, .ref cn, .ref la, .int (nI 1), .ref ro, .int 0]))) (fun q => by subst q; have := hT.symm.trans hY; first | cases this | simp at this)).trans hT
      replace hsl := (qs_ne (h := h) (a := y) (o := (.inr (8, [.ref ms_, .ref mb, .ref mw, .int gr, .int 2, .int 0, .int 0, .ref od, .ref pt, .int 0, .int 0, .ref fi, .ref re, .int (nI 1), .ref rc, .ref rs, .ref so, .ref ot, .ref cn, .ref la, .int (nI 1), .ref ro, .int 0]))) (fun q => by subst q; have := hsl.symm.trans hY; first | cases this | simp at this)).trans hsl
      replace ho := (qs_ne (h := h) (a := y) (o := (.inr (8, [.ref ms_, .ref mb, .ref mw, .int gr, .int 2, .int 0, .int 0, .ref od, .ref pt, .int 0, .int 0, .ref fi, .ref re, .int (nI 1), .ref rc, .ref rs, .ref so, .ref ot, .ref cn, .ref la, .int (nI 1), .ref ro, .int 0]))) (fun q => by subst q; have := ho.symm.trans hY; first | cases this | simp at this)).trans ho
      replace hY : (qs h y (.inr (8, [.ref ms_, .ref mb, .ref mw, .int gr, .int 2, .int 0, .int 0, .ref od, .ref pt, .int 0, .int 0, .ref fi, .ref re, .int (nI 1), .ref rc, .ref rs, .ref so, .ref ot, .ref cn, .ref la, .int (nI 1), .ref ro, .int 0]))) y = some (.inr (8, [.ref ms_, .ref mb, .ref mw, .int gr, .int 2, .int 0, .int 0, .ref od, .ref pt, .int 0, .int 0, .ref fi, .ref re, .int (nI 1), .ref rc, .ref rs, .ref so, .ref ot, .ref cn, .ref la, .int (nI 1), .ref ro, .int 0])) := qs_self
      refine lv_aload_n hx hb dL_law_2171 rfl (lv_at hl 3 rfl) ?_
      refine q_callV (rest := []) C (c_X8_thrown l D cy N0 (qs h y (.inr (8, [.ref ms_, .ref mb, .ref mw, .int gr, .int 2, .int 0, .int 0, .ref od, .ref pt, .int 0, .int 0, .ref fi, .ref re, .int (nI 1), .ref rc, .ref rs, .ref so, .ref ot, .ref cn, .ref la, .int (nI 1), .ref ro, .int 0]))) y ms_ mb mw od pt fi re rc rs so ot cn la ro gr 2 0 0 0 0 (nI 1) (nI 1) 0 hY) kX8_thrown g1238 g1239 rfl g1240 g4 hP hS hY (by first | decide | omega) hl.1 rfl (by decide) (by first | decide | omega) dL_law_2172 (fun q ce E h' H1 locs1 hE => hE.elim) (fun v hh5 H locs hq hP hS => ?_)
      obtain ⟨rfl, rfl⟩ := hq
      refine lv_iload hx hb dL_law_2175 (lv_at hl 0 rfl) ?_
      refine lv_icmp_eq (tgt := 2182) hx hb dL_law_2177 (by decide) (fun _ => ?_) (fun c9 => absurd rfl c9)
      refine lv_goto (tgt := 2940) hx hb dL_law_2182 (by decide) ?_
      exact kend ls H locs _ _ (by omega) (by omega) hS (lv_sub hl [1, 5] rfl)
