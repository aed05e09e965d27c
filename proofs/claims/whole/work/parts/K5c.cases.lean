theorem dL_law_1977 : decode cL_law 1977 = .ok (.aload_n 1, 1) := by decide +kernel
theorem dL_law_1978 : decode cL_law 1978 = .ok (.aload_n 0, 1) := by decide +kernel
theorem dL_law_1979 : decode cL_law 1979 = .ok (.iload 4, 2) := by decide +kernel
theorem dL_law_1981 : decode cL_law 1981 = .ok (.iconst 1, 1) := by decide +kernel
theorem dL_law_1982 : decode cL_law 1982 = .ok (.iadd, 1) := by decide +kernel
theorem dL_law_1983 : decode cL_law 1983 = .ok (.iaload, 1) := by decide +kernel
theorem dL_law_1984 : decode cL_law 1984 = .ok (.aload_n 0, 1) := by decide +kernel
theorem dL_law_1985 : decode cL_law 1985 = .ok (.iload 4, 2) := by decide +kernel
theorem dL_law_1987 : decode cL_law 1987 = .ok (.iconst 2, 1) := by decide +kernel
theorem dL_law_1988 : decode cL_law 1988 = .ok (.iadd, 1) := by decide +kernel
theorem dL_law_1989 : decode cL_law 1989 = .ok (.iaload, 1) := by decide +kernel
theorem dL_law_1990 : decode cL_law 1990 = .ok (.aload_n 0, 1) := by decide +kernel
theorem dL_law_1991 : decode cL_law 1991 = .ok (.iload 4, 2) := by decide +kernel
theorem dL_law_1993 : decode cL_law 1993 = .ok (.iconst 3, 1) := by decide +kernel
theorem dL_law_1994 : decode cL_law 1994 = .ok (.iadd, 1) := by decide +kernel
theorem dL_law_1995 : decode cL_law 1995 = .ok (.iaload, 1) := by decide +kernel
theorem dL_law_1996 : decode cL_law 1996 = .ok (.aload_n 0, 1) := by decide +kernel
theorem dL_law_1997 : decode cL_law 1997 = .ok (.iload 4, 2) := by decide +kernel
theorem dL_law_1999 : decode cL_law 1999 = .ok (.iconst 4, 1) := by decide +kernel
theorem dL_law_2000 : decode cL_law 2000 = .ok (.iadd, 1) := by decide +kernel
theorem dL_law_2001 : decode cL_law 2001 = .ok (.iaload, 1) := by decide +kernel
theorem dL_law_2002 : decode cL_law 2002 = .ok (.i2l, 1) := by decide +kernel
theorem dL_law_2003 : decode cL_law 2003 = .ok (.bipush 32, 2) := by decide +kernel
theorem dL_law_2005 : decode cL_law 2005 = .ok (.lshl, 1) := by decide +kernel
theorem dL_law_2006 : decode cL_law 2006 = .ok (.aload_n 0, 1) := by decide +kernel
theorem dL_law_2007 : decode cL_law 2007 = .ok (.iload 4, 2) := by decide +kernel
theorem dL_law_2009 : decode cL_law 2009 = .ok (.iconst 5, 1) := by decide +kernel
theorem dL_law_2010 : decode cL_law 2010 = .ok (.iadd, 1) := by decide +kernel
theorem dL_law_2011 : decode cL_law 2011 = .ok (.iaload, 1) := by decide +kernel
theorem dL_law_2012 : decode cL_law 2012 = .ok (.i2l, 1) := by decide +kernel
theorem dL_law_2013 : decode cL_law 2013 = .ok (.ldc2_w 161, 3) := by decide +kernel
theorem dL_law_2016 : decode cL_law 2016 = .ok (.land, 1) := by decide +kernel
theorem dL_law_2017 : decode cL_law 2017 = .ok (.lor, 1) := by decide +kernel
theorem dL_law_2018 : decode cL_law 2018 = .ok (.invokestatic 220, 3) := by decide +kernel
theorem dL_law_2021 : decode cL_law 2021 = .ok (.istore 5, 2) := by decide +kernel
theorem dL_law_2023 : decode cL_law 2023 = .ok (.aload_n 2, 1) := by decide +kernel
theorem dL_law_2024 : decode cL_law 2024 = .ok (.aload_n 0, 1) := by decide +kernel
theorem dL_law_2025 : decode cL_law 2025 = .ok (.iload 4, 2) := by decide +kernel
theorem dL_law_2027 : decode cL_law 2027 = .ok (.iconst 1, 1) := by decide +kernel
theorem dL_law_2028 : decode cL_law 2028 = .ok (.iadd, 1) := by decide +kernel
theorem dL_law_2029 : decode cL_law 2029 = .ok (.iaload, 1) := by decide +kernel
theorem dL_law_2030 : decode cL_law 2030 = .ok (.aload_n 0, 1) := by decide +kernel
theorem dL_law_2031 : decode cL_law 2031 = .ok (.iload 4, 2) := by decide +kernel
theorem dL_law_2033 : decode cL_law 2033 = .ok (.iconst 2, 1) := by decide +kernel
theorem dL_law_2034 : decode cL_law 2034 = .ok (.iadd, 1) := by decide +kernel
theorem dL_law_2035 : decode cL_law 2035 = .ok (.iaload, 1) := by decide +kernel
theorem dL_law_2036 : decode cL_law 2036 = .ok (.aload_n 0, 1) := by decide +kernel
theorem dL_law_2037 : decode cL_law 2037 = .ok (.iload 4, 2) := by decide +kernel
theorem dL_law_2039 : decode cL_law 2039 = .ok (.iconst 3, 1) := by decide +kernel
theorem dL_law_2040 : decode cL_law 2040 = .ok (.iadd, 1) := by decide +kernel
theorem dL_law_2041 : decode cL_law 2041 = .ok (.iaload, 1) := by decide +kernel
theorem dL_law_2042 : decode cL_law 2042 = .ok (.aload_n 0, 1) := by decide +kernel
theorem dL_law_2043 : decode cL_law 2043 = .ok (.iload 4, 2) := by decide +kernel
theorem dL_law_2045 : decode cL_law 2045 = .ok (.iconst 4, 1) := by decide +kernel
theorem dL_law_2046 : decode cL_law 2046 = .ok (.iadd, 1) := by decide +kernel
theorem dL_law_2047 : decode cL_law 2047 = .ok (.iaload, 1) := by decide +kernel
theorem dL_law_2048 : decode cL_law 2048 = .ok (.i2l, 1) := by decide +kernel
theorem dL_law_2049 : decode cL_law 2049 = .ok (.bipush 32, 2) := by decide +kernel
theorem dL_law_2051 : decode cL_law 2051 = .ok (.lshl, 1) := by decide +kernel
theorem dL_law_2052 : decode cL_law 2052 = .ok (.aload_n 0, 1) := by decide +kernel
theorem dL_law_2053 : decode cL_law 2053 = .ok (.iload 4, 2) := by decide +kernel
theorem dL_law_2055 : decode cL_law 2055 = .ok (.iconst 5, 1) := by decide +kernel
theorem dL_law_2056 : decode cL_law 2056 = .ok (.iadd, 1) := by decide +kernel
theorem dL_law_2057 : decode cL_law 2057 = .ok (.iaload, 1) := by decide +kernel
theorem dL_law_2058 : decode cL_law 2058 = .ok (.i2l, 1) := by decide +kernel
theorem dL_law_2059 : decode cL_law 2059 = .ok (.ldc2_w 161, 3) := by decide +kernel
theorem dL_law_2062 : decode cL_law 2062 = .ok (.land, 1) := by decide +kernel
theorem dL_law_2063 : decode cL_law 2063 = .ok (.lor, 1) := by decide +kernel
theorem dL_law_2064 : decode cL_law 2064 = .ok (.invokevirtual 223, 3) := by decide +kernel
theorem dL_law_2067 : decode cL_law 2067 = .ok (.aload_n 2, 1) := by decide +kernel
theorem dL_law_2068 : decode cL_law 2068 = .ok (.invokevirtual 147, 3) := by decide +kernel
theorem dL_law_2071 : decode cL_law 2071 = .ok (.iload 5, 2) := by decide +kernel
theorem dL_law_2073 : decode cL_law 2073 = .ok (.if_icmp .eq 5, 3) := by decide +kernel
theorem dL_law_2078 : decode cL_law 2078 = .ok (.goto 862, 3) := by decide +kernel
set_option maxRecDepth 100000 in
set_option maxHeartbeats 4000000 in
theorem lc_map {p : Program} {l : Launch} {e : Env} {mc ms : Nat} {s : State} {m : MethodId} {below : List Frame} {meth : Method} {c : Code} {H : Heap} {locs : List Loc} {cells slots : Nat} {Q : State → Prop} {rt0 : Option FieldType} {nm0 : String} {D : va_G} {cy : Nat → ClassId} {N0 : Nat} {tb : List ExceptionTableEntry} {h : qH} {ls : Array Slot} {b L : Nat} {xs : Nat → Int32} {x y ou : Nat} {fo : Nat → Int64} {gr : Int32} {n i C1 C2 : Nat} {S : Nat → qSlot} {Wo : qWo} (C : qX p l s m #[Value.ref b] meth c RL cL_law 8 rt0 nm0 D cy N0 tb) (hX : va_X b L xs s s.heap) (hbl0 : b < s.heap.size) (hbA : ¬ qA N0 b) (hP : qP D N0 h H) (hS : va_S (qA N0) s.heap H locs) (hi : i + 7 ≤ L) (hL : L ≤ 449) (hn : n < 64) (j : JZ cy h x y ou fo gr n S Wo S Wo) (hp : PI gr n S Wo) (hc1 : cells ≤ C1 + t1 n + Wo.2.1.1 + qP1 Wo.2.1) (hc2 : slots ≤ C2 + t2 n + 10 * Wo.2.1.1 + qP2 Wo.2.1) (hmc : C1 + 530000 ≤ mc) (hms : C2 + 5520000 ≤ ms) (hl : lv_has ls 8 [(4, .int (nI i)), (3, .ref ou), (2, .ref y), (1, .ref x), (0, .ref b)]) (kend : ∀ (ls : Array Slot) (H : Heap) (locs : List Loc) (c1 c2 : Nat) (h : qH) (fo : Nat → Int64) (S : Nat → qSlot) (Wo : qWo), JZ cy h x y ou fo gr (n + 1) S Wo S Wo → PI gr (n + 1) S Wo → c1 ≤ C1 + t1 (n + 1) + Wo.2.1.1 + qP1 Wo.2.1 → c2 ≤ C2 + t2 (n + 1) + 10 * Wo.2.1.1 + qP2 Wo.2.1 → qP D N0 h H → va_S (qA N0) s.heap H locs → lv_has ls 8 [(4, .int (nI i)), (3, .ref ou), (2, .ref y), (1, .ref x), (0, .ref b)] → W p l e (qR 2048 84000 mc ms) s m #[Value.ref b] below meth c H locs c1 c2 Q (F0 m 2940 ls [])) : W p l e (qR 2048 84000 mc ms) s m #[Value.ref b] below meth c H locs cells slots Q (F0 m 1977 ls []) := by
  have hx := C.1
  have hb := C.2.1
  have h1L := t1_le (n + 1) (by omega)
  have h2L := t2_le (n + 1) (by omega)
  have e1L : t1 (n + 1) = t1 n + (1201 + 212 * n) := rfl
  have e2L : t2 (n + 1) = t2 n + (13300 + n * rMs n 7) := rfl
  have hb0 := hp.bnd (by omega)
  refine lv_aload_n hx hb dL_law_1977 rfl (lv_at hl 3 rfl) ?_
  refine lv_aload_n hx hb dL_law_1978 rfl (lv_at hl 4 rfl) ?_
  refine lv_iload hx hb dL_law_1979 (lv_at hl 0 rfl) ?_
  refine lv_iconst (v := nI 1) hx hb dL_law_1981 (by decide) ?_
  refine q_iaddN hx hb dL_law_1982 ?_
  refine va_sld hx hb hX hbl0 hbA hS (nI_in (by omega) (by omega)) dL_law_1983 ?_
  refine lv_topi (fun s1 es1 => ?_)
  refine lv_aload_n hx hb dL_law_1984 rfl (lv_at hl 4 rfl) ?_
  refine lv_iload hx hb dL_law_1985 (lv_at hl 0 rfl) ?_
  refine lv_iconst (v := nI 2) hx hb dL_law_1987 (by decide) ?_
  refine q_iaddN hx hb dL_law_1988 ?_
  refine va_sld hx hb hX hbl0 hbA hS (nI_in (by omega) (by omega)) dL_law_1989 ?_
  refine lv_topi (fun s2 es2 => ?_)
  refine lv_aload_n hx hb dL_law_1990 rfl (lv_at hl 4 rfl) ?_
  refine lv_iload hx hb dL_law_1991 (lv_at hl 0 rfl) ?_
  refine lv_iconst (v := nI 3) hx hb dL_law_1993 (by decide) ?_
  refine q_iaddN hx hb dL_law_1994 ?_
  refine va_sld hx hb hX hbl0 hbA hS (nI_in (by omega) (by omega)) dL_law_1995 ?_
  refine lv_topi (fun s3 es3 => ?_)
  refine lv_aload_n hx hb dL_law_1996 rfl (lv_at hl 4 rfl) ?_
  refine lv_iload hx hb dL_law_1997 (lv_at hl 0 rfl) ?_
  refine lv_iconst (v := nI 4) hx hb dL_law_1999 (by decide) ?_
  refine q_iaddN hx hb dL_law_2000 ?_
  refine va_sld hx hb hX hbl0 hbA hS (nI_in (by omega) (by omega)) dL_law_2001 ?_
  refine lv_topi (fun s4 es4 => ?_)
  refine lv_i2l hx hb dL_law_2002 rfl ?_
  refine lv_bipush (v := nI 32) hx hb dL_law_2003 (by decide) ?_
  refine lv_lshl hx hb dL_law_2005 rfl ?_
  refine lv_aload_n hx hb dL_law_2006 rfl (lv_at hl 4 rfl) ?_
  refine lv_iload hx hb dL_law_2007 (lv_at hl 0 rfl) ?_
  refine lv_iconst (v := nI 5) hx hb dL_law_2009 (by decide) ?_
  refine q_iaddN hx hb dL_law_2010 ?_
  refine va_sld hx hb hX hbl0 hbA hS (nI_in (by omega) (by omega)) dL_law_2011 ?_
  refine lv_topi (fun s5 es5 => ?_)
  refine lv_i2l hx hb dL_law_2012 rfl ?_
  refine lv_ldc2 hx hb C.2.2.2.2.1 (C.2.2.2.2.2.1 _ g1484) dL_law_2013 ?_
  refine lv_land hx hb dL_law_2016 ?_
  refine lv_lor hx hb dL_law_2017 ?_
  refine lv_topl (fun q4 eq4 => ?_)
  have hpK : PI gr (n + 1) ((xs_map S Wo s1 s2 s3 q4).2.1) ((xs_map S Wo s1 s2 s3 q4).2.2) := hp.map
  have hbK := hpK.bnd (by omega)
  have hmo : MO Wo ((xs_map S Wo s1 s2 s3 q4).2.2) := mo_map
  have hqm := qP1_mo hmo hb0.2.2.2
  have hm1 := hmo.1
  refine q_callSW (rest := []) C (zl_map l D cy N0 h x y ou fo gr n S Wo s1 s2 s3 q4 j hp hn) kwL_map g932 g933 hP hS (by omega) hl.1 rfl (by decide) (by omega) dL_law_2018 (fun v hh1 H locs hq hP hS => ?_)
  obtain ⟨rfl, j1⟩ := hq
  obtain ⟨fi, re, rc, rs, so, ot, cn, la, hy1⟩ := j1.yo
  refine lv_istore (lv' := [(5, .int ((xs_map S Wo s1 s2 s3 q4).1)), (4, .int (nI i)), (3, .ref ou), (2, .ref y), (1, .ref x), (0, .ref b)]) hx hb dL_law_2021 hl (by decide) rfl (fun ls hl => ?_)
  refine lv_aload_n hx hb dL_law_2023 rfl (lv_at hl 3 rfl) ?_
  refine lv_aload_n hx hb dL_law_2024 rfl (lv_at hl 5 rfl) ?_
  refine lv_iload hx hb dL_law_2025 (lv_at hl 1 rfl) ?_
  refine lv_iconst (v := nI 1) hx hb dL_law_2027 (by decide) ?_
  refine q_iaddN hx hb dL_law_2028 ?_
  refine va_sld hx hb hX hbl0 hbA hS (nI_in (by omega) (by omega)) dL_law_2029 ?_
  rw [← es1]
  refine lv_aload_n hx hb dL_law_2030 rfl (lv_at hl 5 rfl) ?_
  refine lv_iload hx hb dL_law_2031 (lv_at hl 1 rfl) ?_
  refine lv_iconst (v := nI 2) hx hb dL_law_2033 (by decide) ?_
  refine q_iaddN hx hb dL_law_2034 ?_
  refine va_sld hx hb hX hbl0 hbA hS (nI_in (by omega) (by omega)) dL_law_2035 ?_
  rw [← es2]
  refine lv_aload_n hx hb dL_law_2036 rfl (lv_at hl 5 rfl) ?_
  refine lv_iload hx hb dL_law_2037 (lv_at hl 1 rfl) ?_
  refine lv_iconst (v := nI 3) hx hb dL_law_2039 (by decide) ?_
  refine q_iaddN hx hb dL_law_2040 ?_
  refine va_sld hx hb hX hbl0 hbA hS (nI_in (by omega) (by omega)) dL_law_2041 ?_
  rw [← es3]
  refine lv_aload_n hx hb dL_law_2042 rfl (lv_at hl 5 rfl) ?_
  refine lv_iload hx hb dL_law_2043 (lv_at hl 1 rfl) ?_
  refine lv_iconst (v := nI 4) hx hb dL_law_2045 (by decide) ?_
  refine q_iaddN hx hb dL_law_2046 ?_
  refine va_sld hx hb hX hbl0 hbA hS (nI_in (by omega) (by omega)) dL_law_2047 ?_
  rw [← es4]
  refine lv_i2l hx hb dL_law_2048 rfl ?_
  refine lv_bipush (v := nI 32) hx hb dL_law_2049 (by decide) ?_
  refine lv_lshl hx hb dL_law_2051 rfl ?_
  refine lv_aload_n hx hb dL_law_2052 rfl (lv_at hl 5 rfl) ?_
  refine lv_iload hx hb dL_law_2053 (lv_at hl 1 rfl) ?_
  refine lv_iconst (v := nI 5) hx hb dL_law_2055 (by decide) ?_
  refine q_iaddN hx hb dL_law_2056 ?_
  refine va_sld hx hb hX hbl0 hbA hS (nI_in (by omega) (by omega)) dL_law_2057 ?_
  rw [← es5]
  refine lv_i2l hx hb dL_law_2058 rfl ?_
  refine lv_ldc2 hx hb C.2.2.2.2.1 (C.2.2.2.2.2.1 _ g1484) dL_law_2059 ?_
  refine lv_land hx hb dL_law_2062 ?_
  refine lv_lor hx hb dL_law_2063 ?_
  rw [← eq4]
  refine q_callV (rest := []) C (wl_map l D cy N0 hh1 x y ou fo gr n S Wo s1 s2 s3 q4 j1 hp hn) kX8_map g1433 g1434 rfl g1435 g4 hP hS hy1 (by first | decide | omega) hl.1 rfl (by decide) (by first | decide | omega) dL_law_2064 (fun q ce E h' H1 locs1 hE => hE.elim) (fun v hh2 H locs hq hP hS => ?_)
  obtain ⟨rfl, W2, j2, p2, hcd, hw2⟩ := hq
  have hb2 : W2.2.1 = ((xs_map S Wo s1 s2 s3 q4).2.2).2.1 := congrArg Prod.fst hw2
  obtain ⟨fi2, re2, rc2, rs2, so2, ot2, cn2, la2, hy2⟩ := j2.yo
  refine lv_aload_n hx hb dL_law_2067 rfl (lv_at hl 3 rfl) ?_
  refine q_callV (rest := []) C (c_X8_thrown l D cy N0 hh2 y W2.1.1 W2.1.2.1 W2.1.2.2.1 W2.1.2.2.2.1 W2.1.2.2.2.2.1 fi2 re2 rc2 rs2 so2 ot2 cn2 la2 W2.1.2.2.2.2.2.1 W2.1.2.2.2.2.2.2.1 W2.1.2.2.2.2.2.2.2.1 W2.1.2.2.2.2.2.2.2.2.1 W2.1.2.2.2.2.2.2.2.2.2.1 W2.1.2.2.2.2.2.2.2.2.2.2.1 W2.1.2.2.2.2.2.2.2.2.2.2.2.1 (nI W2.2.1.1) (nI W2.2.2.1) W2.1.2.2.2.2.2.2.2.2.2.2.2.2 hy2) kX8_thrown g1238 g1239 rfl g1240 g4 hP hS hy2 (by first | decide | omega) hl.1 rfl (by decide) (by first | decide | omega) dL_law_2068 (fun q ce E h' H1 locs1 hE => hE.elim) (fun v hh3 H locs hq hP hS => ?_)
  obtain ⟨rfl, rfl⟩ := hq
  rw [hcd]
  refine lv_iload hx hb dL_law_2071 (lv_at hl 0 rfl) ?_
  refine lv_icmp_eq (tgt := 2078) hx hb dL_law_2073 (by decide) (fun _ => ?_) (fun c9 => absurd rfl c9)
  refine lv_goto (tgt := 2940) hx hb dL_law_2078 (by decide) ?_
  exact kend ls H locs _ _ _ fo _ W2 j2 p2 (by rw [hb2]; omega) (by rw [hb2]; omega) hP hS (lv_sub hl [1, 2, 3, 4, 5] rfl)
theorem dL_law_2081 : decode cL_law 2081 = .ok (.aload_n 1, 1) := by decide +kernel
theorem dL_law_2082 : decode cL_law 2082 = .ok (.aload_n 0, 1) := by decide +kernel
theorem dL_law_2083 : decode cL_law 2083 = .ok (.iload 4, 2) := by decide +kernel
theorem dL_law_2085 : decode cL_law 2085 = .ok (.iconst 1, 1) := by decide +kernel
theorem dL_law_2086 : decode cL_law 2086 = .ok (.iadd, 1) := by decide +kernel
theorem dL_law_2087 : decode cL_law 2087 = .ok (.iaload, 1) := by decide +kernel
theorem dL_law_2088 : decode cL_law 2088 = .ok (.aload_n 0, 1) := by decide +kernel
theorem dL_law_2089 : decode cL_law 2089 = .ok (.iload 4, 2) := by decide +kernel
theorem dL_law_2091 : decode cL_law 2091 = .ok (.iconst 2, 1) := by decide +kernel
theorem dL_law_2092 : decode cL_law 2092 = .ok (.iadd, 1) := by decide +kernel
theorem dL_law_2093 : decode cL_law 2093 = .ok (.iaload, 1) := by decide +kernel
theorem dL_law_2094 : decode cL_law 2094 = .ok (.aload_n 0, 1) := by decide +kernel
theorem dL_law_2095 : decode cL_law 2095 = .ok (.iload 4, 2) := by decide +kernel
theorem dL_law_2097 : decode cL_law 2097 = .ok (.iconst 3, 1) := by decide +kernel
theorem dL_law_2098 : decode cL_law 2098 = .ok (.iadd, 1) := by decide +kernel
theorem dL_law_2099 : decode cL_law 2099 = .ok (.iaload, 1) := by decide +kernel
theorem dL_law_2100 : decode cL_law 2100 = .ok (.aload_n 0, 1) := by decide +kernel
theorem dL_law_2101 : decode cL_law 2101 = .ok (.iload 4, 2) := by decide +kernel
theorem dL_law_2103 : decode cL_law 2103 = .ok (.iconst 4, 1) := by decide +kernel
theorem dL_law_2104 : decode cL_law 2104 = .ok (.iadd, 1) := by decide +kernel
theorem dL_law_2105 : decode cL_law 2105 = .ok (.iaload, 1) := by decide +kernel
theorem dL_law_2106 : decode cL_law 2106 = .ok (.i2l, 1) := by decide +kernel
theorem dL_law_2107 : decode cL_law 2107 = .ok (.bipush 32, 2) := by decide +kernel
theorem dL_law_2109 : decode cL_law 2109 = .ok (.lshl, 1) := by decide +kernel
theorem dL_law_2110 : decode cL_law 2110 = .ok (.aload_n 0, 1) := by decide +kernel
theorem dL_law_2111 : decode cL_law 2111 = .ok (.iload 4, 2) := by decide +kernel
theorem dL_law_2113 : decode cL_law 2113 = .ok (.iconst 5, 1) := by decide +kernel
theorem dL_law_2114 : decode cL_law 2114 = .ok (.iadd, 1) := by decide +kernel
theorem dL_law_2115 : decode cL_law 2115 = .ok (.iaload, 1) := by decide +kernel
theorem dL_law_2116 : decode cL_law 2116 = .ok (.i2l, 1) := by decide +kernel
theorem dL_law_2117 : decode cL_law 2117 = .ok (.ldc2_w 161, 3) := by decide +kernel
theorem dL_law_2120 : decode cL_law 2120 = .ok (.land, 1) := by decide +kernel
theorem dL_law_2121 : decode cL_law 2121 = .ok (.lor, 1) := by decide +kernel
theorem dL_law_2122 : decode cL_law 2122 = .ok (.invokestatic 224, 3) := by decide +kernel
theorem dL_law_2125 : decode cL_law 2125 = .ok (.istore 5, 2) := by decide +kernel
theorem dL_law_2127 : decode cL_law 2127 = .ok (.aload_n 2, 1) := by decide +kernel
theorem dL_law_2128 : decode cL_law 2128 = .ok (.aload_n 0, 1) := by decide +kernel
theorem dL_law_2129 : decode cL_law 2129 = .ok (.iload 4, 2) := by decide +kernel
theorem dL_law_2131 : decode cL_law 2131 = .ok (.iconst 1, 1) := by decide +kernel
theorem dL_law_2132 : decode cL_law 2132 = .ok (.iadd, 1) := by decide +kernel
theorem dL_law_2133 : decode cL_law 2133 = .ok (.iaload, 1) := by decide +kernel
theorem dL_law_2134 : decode cL_law 2134 = .ok (.aload_n 0, 1) := by decide +kernel
theorem dL_law_2135 : decode cL_law 2135 = .ok (.iload 4, 2) := by decide +kernel
theorem dL_law_2137 : decode cL_law 2137 = .ok (.iconst 2, 1) := by decide +kernel
theorem dL_law_2138 : decode cL_law 2138 = .ok (.iadd, 1) := by decide +kernel
theorem dL_law_2139 : decode cL_law 2139 = .ok (.iaload, 1) := by decide +kernel
theorem dL_law_2140 : decode cL_law 2140 = .ok (.aload_n 0, 1) := by decide +kernel
theorem dL_law_2141 : decode cL_law 2141 = .ok (.iload 4, 2) := by decide +kernel
theorem dL_law_2143 : decode cL_law 2143 = .ok (.iconst 3, 1) := by decide +kernel
theorem dL_law_2144 : decode cL_law 2144 = .ok (.iadd, 1) := by decide +kernel
theorem dL_law_2145 : decode cL_law 2145 = .ok (.iaload, 1) := by decide +kernel
theorem dL_law_2146 : decode cL_law 2146 = .ok (.aload_n 0, 1) := by decide +kernel
theorem dL_law_2147 : decode cL_law 2147 = .ok (.iload 4, 2) := by decide +kernel
theorem dL_law_2149 : decode cL_law 2149 = .ok (.iconst 4, 1) := by decide +kernel
theorem dL_law_2150 : decode cL_law 2150 = .ok (.iadd, 1) := by decide +kernel
theorem dL_law_2151 : decode cL_law 2151 = .ok (.iaload, 1) := by decide +kernel
theorem dL_law_2152 : decode cL_law 2152 = .ok (.i2l, 1) := by decide +kernel
theorem dL_law_2153 : decode cL_law 2153 = .ok (.bipush 32, 2) := by decide +kernel
theorem dL_law_2155 : decode cL_law 2155 = .ok (.lshl, 1) := by decide +kernel
theorem dL_law_2156 : decode cL_law 2156 = .ok (.aload_n 0, 1) := by decide +kernel
theorem dL_law_2157 : decode cL_law 2157 = .ok (.iload 4, 2) := by decide +kernel
theorem dL_law_2159 : decode cL_law 2159 = .ok (.iconst 5, 1) := by decide +kernel
theorem dL_law_2160 : decode cL_law 2160 = .ok (.iadd, 1) := by decide +kernel
theorem dL_law_2161 : decode cL_law 2161 = .ok (.iaload, 1) := by decide +kernel
theorem dL_law_2162 : decode cL_law 2162 = .ok (.i2l, 1) := by decide +kernel
theorem dL_law_2163 : decode cL_law 2163 = .ok (.ldc2_w 161, 3) := by decide +kernel
theorem dL_law_2166 : decode cL_law 2166 = .ok (.land, 1) := by decide +kernel
theorem dL_law_2167 : decode cL_law 2167 = .ok (.lor, 1) := by decide +kernel
theorem dL_law_2168 : decode cL_law 2168 = .ok (.invokevirtual 226, 3) := by decide +kernel
theorem dL_law_2171 : decode cL_law 2171 = .ok (.aload_n 2, 1) := by decide +kernel
theorem dL_law_2172 : decode cL_law 2172 = .ok (.invokevirtual 147, 3) := by decide +kernel
theorem dL_law_2175 : decode cL_law 2175 = .ok (.iload 5, 2) := by decide +kernel
theorem dL_law_2177 : decode cL_law 2177 = .ok (.if_icmp .eq 5, 3) := by decide +kernel
theorem dL_law_2182 : decode cL_law 2182 = .ok (.goto 758, 3) := by decide +kernel
set_option maxRecDepth 100000 in
set_option maxHeartbeats 4000000 in
theorem lc_filter {p : Program} {l : Launch} {e : Env} {mc ms : Nat} {s : State} {m : MethodId} {below : List Frame} {meth : Method} {c : Code} {H : Heap} {locs : List Loc} {cells slots : Nat} {Q : State → Prop} {rt0 : Option FieldType} {nm0 : String} {D : va_G} {cy : Nat → ClassId} {N0 : Nat} {tb : List ExceptionTableEntry} {h : qH} {ls : Array Slot} {b L : Nat} {xs : Nat → Int32} {x y ou : Nat} {fo : Nat → Int64} {gr : Int32} {n i C1 C2 : Nat} {S : Nat → qSlot} {Wo : qWo} (C : qX p l s m #[Value.ref b] meth c RL cL_law 8 rt0 nm0 D cy N0 tb) (hX : va_X b L xs s s.heap) (hbl0 : b < s.heap.size) (hbA : ¬ qA N0 b) (hP : qP D N0 h H) (hS : va_S (qA N0) s.heap H locs) (hi : i + 7 ≤ L) (hL : L ≤ 449) (hn : n < 64) (j : JZ cy h x y ou fo gr n S Wo S Wo) (hp : PI gr n S Wo) (hc1 : cells ≤ C1 + t1 n + Wo.2.1.1 + qP1 Wo.2.1) (hc2 : slots ≤ C2 + t2 n + 10 * Wo.2.1.1 + qP2 Wo.2.1) (hmc : C1 + 530000 ≤ mc) (hms : C2 + 5520000 ≤ ms) (hl : lv_has ls 8 [(4, .int (nI i)), (3, .ref ou), (2, .ref y), (1, .ref x), (0, .ref b)]) (kend : ∀ (ls : Array Slot) (H : Heap) (locs : List Loc) (c1 c2 : Nat) (h : qH) (fo : Nat → Int64) (S : Nat → qSlot) (Wo : qWo), JZ cy h x y ou fo gr (n + 1) S Wo S Wo → PI gr (n + 1) S Wo → c1 ≤ C1 + t1 (n + 1) + Wo.2.1.1 + qP1 Wo.2.1 → c2 ≤ C2 + t2 (n + 1) + 10 * Wo.2.1.1 + qP2 Wo.2.1 → qP D N0 h H → va_S (qA N0) s.heap H locs → lv_has ls 8 [(4, .int (nI i)), (3, .ref ou), (2, .ref y), (1, .ref x), (0, .ref b)] → W p l e (qR 2048 84000 mc ms) s m #[Value.ref b] below meth c H locs c1 c2 Q (F0 m 2940 ls [])) : W p l e (qR 2048 84000 mc ms) s m #[Value.ref b] below meth c H locs cells slots Q (F0 m 2081 ls []) := by
  have hx := C.1
  have hb := C.2.1
  have h1L := t1_le (n + 1) (by omega)
  have h2L := t2_le (n + 1) (by omega)
  have e1L : t1 (n + 1) = t1 n + (1201 + 212 * n) := rfl
  have e2L : t2 (n + 1) = t2 n + (13300 + n * rMs n 7) := rfl
  have hb0 := hp.bnd (by omega)
  refine lv_aload_n hx hb dL_law_2081 rfl (lv_at hl 3 rfl) ?_
  refine lv_aload_n hx hb dL_law_2082 rfl (lv_at hl 4 rfl) ?_
  refine lv_iload hx hb dL_law_2083 (lv_at hl 0 rfl) ?_
  refine lv_iconst (v := nI 1) hx hb dL_law_2085 (by decide) ?_
  refine q_iaddN hx hb dL_law_2086 ?_
  refine va_sld hx hb hX hbl0 hbA hS (nI_in (by omega) (by omega)) dL_law_2087 ?_
  refine lv_topi (fun s1 es1 => ?_)
  refine lv_aload_n hx hb dL_law_2088 rfl (lv_at hl 4 rfl) ?_
  refine lv_iload hx hb dL_law_2089 (lv_at hl 0 rfl) ?_
  refine lv_iconst (v := nI 2) hx hb dL_law_2091 (by decide) ?_
  refine q_iaddN hx hb dL_law_2092 ?_
  refine va_sld hx hb hX hbl0 hbA hS (nI_in (by omega) (by omega)) dL_law_2093 ?_
  refine lv_topi (fun s2 es2 => ?_)
  refine lv_aload_n hx hb dL_law_2094 rfl (lv_at hl 4 rfl) ?_
  refine lv_iload hx hb dL_law_2095 (lv_at hl 0 rfl) ?_
  refine lv_iconst (v := nI 3) hx hb dL_law_2097 (by decide) ?_
  refine q_iaddN hx hb dL_law_2098 ?_
  refine va_sld hx hb hX hbl0 hbA hS (nI_in (by omega) (by omega)) dL_law_2099 ?_
  refine lv_topi (fun s3 es3 => ?_)
  refine lv_aload_n hx hb dL_law_2100 rfl (lv_at hl 4 rfl) ?_
  refine lv_iload hx hb dL_law_2101 (lv_at hl 0 rfl) ?_
  refine lv_iconst (v := nI 4) hx hb dL_law_2103 (by decide) ?_
  refine q_iaddN hx hb dL_law_2104 ?_
  refine va_sld hx hb hX hbl0 hbA hS (nI_in (by omega) (by omega)) dL_law_2105 ?_
  refine lv_topi (fun s4 es4 => ?_)
  refine lv_i2l hx hb dL_law_2106 rfl ?_
  refine lv_bipush (v := nI 32) hx hb dL_law_2107 (by decide) ?_
  refine lv_lshl hx hb dL_law_2109 rfl ?_
  refine lv_aload_n hx hb dL_law_2110 rfl (lv_at hl 4 rfl) ?_
  refine lv_iload hx hb dL_law_2111 (lv_at hl 0 rfl) ?_
  refine lv_iconst (v := nI 5) hx hb dL_law_2113 (by decide) ?_
  refine q_iaddN hx hb dL_law_2114 ?_
  refine va_sld hx hb hX hbl0 hbA hS (nI_in (by omega) (by omega)) dL_law_2115 ?_
  refine lv_topi (fun s5 es5 => ?_)
  refine lv_i2l hx hb dL_law_2116 rfl ?_
  refine lv_ldc2 hx hb C.2.2.2.2.1 (C.2.2.2.2.2.1 _ g1484) dL_law_2117 ?_
  refine lv_land hx hb dL_law_2120 ?_
  refine lv_lor hx hb dL_law_2121 ?_
  refine lv_topl (fun q4 eq4 => ?_)
  have hpK : PI gr (n + 1) ((xs_filter (xF S) S Wo s1 s2 s3 q4).2.1) ((xs_filter (xF S) S Wo s1 s2 s3 q4).2.2) := hp.filter
  have hbK := hpK.bnd (by omega)
  have hmo : MO Wo ((xs_filter (xF S) S Wo s1 s2 s3 q4).2.2) := mo_filter hp
  have hqm := qP1_mo hmo hb0.2.2.2
  have hm1 := hmo.1
  refine q_callSW (rest := []) C (zl_filter l D cy N0 h x y ou fo gr n S Wo s1 s2 s3 q4 j hp hn) kwL_filter g947 g948 hP hS (by omega) hl.1 rfl (by decide) (by omega) dL_law_2122 (fun v hh1 H locs hq hP hS => ?_)
  obtain ⟨rfl, j1⟩ := hq
  obtain ⟨fi, re, rc, rs, so, ot, cn, la, hy1⟩ := j1.yo
  refine lv_istore (lv' := [(5, .int ((xs_filter (xF S) S Wo s1 s2 s3 q4).1)), (4, .int (nI i)), (3, .ref ou), (2, .ref y), (1, .ref x), (0, .ref b)]) hx hb dL_law_2125 hl (by decide) rfl (fun ls hl => ?_)
  refine lv_aload_n hx hb dL_law_2127 rfl (lv_at hl 3 rfl) ?_
  refine lv_aload_n hx hb dL_law_2128 rfl (lv_at hl 5 rfl) ?_
  refine lv_iload hx hb dL_law_2129 (lv_at hl 1 rfl) ?_
  refine lv_iconst (v := nI 1) hx hb dL_law_2131 (by decide) ?_
  refine q_iaddN hx hb dL_law_2132 ?_
  refine va_sld hx hb hX hbl0 hbA hS (nI_in (by omega) (by omega)) dL_law_2133 ?_
  rw [← es1]
  refine lv_aload_n hx hb dL_law_2134 rfl (lv_at hl 5 rfl) ?_
  refine lv_iload hx hb dL_law_2135 (lv_at hl 1 rfl) ?_
  refine lv_iconst (v := nI 2) hx hb dL_law_2137 (by decide) ?_
  refine q_iaddN hx hb dL_law_2138 ?_
  refine va_sld hx hb hX hbl0 hbA hS (nI_in (by omega) (by omega)) dL_law_2139 ?_
  rw [← es2]
  refine lv_aload_n hx hb dL_law_2140 rfl (lv_at hl 5 rfl) ?_
  refine lv_iload hx hb dL_law_2141 (lv_at hl 1 rfl) ?_
  refine lv_iconst (v := nI 3) hx hb dL_law_2143 (by decide) ?_
  refine q_iaddN hx hb dL_law_2144 ?_
  refine va_sld hx hb hX hbl0 hbA hS (nI_in (by omega) (by omega)) dL_law_2145 ?_
  rw [← es3]
  refine lv_aload_n hx hb dL_law_2146 rfl (lv_at hl 5 rfl) ?_
  refine lv_iload hx hb dL_law_2147 (lv_at hl 1 rfl) ?_
  refine lv_iconst (v := nI 4) hx hb dL_law_2149 (by decide) ?_
  refine q_iaddN hx hb dL_law_2150 ?_
  refine va_sld hx hb hX hbl0 hbA hS (nI_in (by omega) (by omega)) dL_law_2151 ?_
  rw [← es4]
  refine lv_i2l hx hb dL_law_2152 rfl ?_
  refine lv_bipush (v := nI 32) hx hb dL_law_2153 (by decide) ?_
  refine lv_lshl hx hb dL_law_2155 rfl ?_
  refine lv_aload_n hx hb dL_law_2156 rfl (lv_at hl 5 rfl) ?_
  refine lv_iload hx hb dL_law_2157 (lv_at hl 1 rfl) ?_
  refine lv_iconst (v := nI 5) hx hb dL_law_2159 (by decide) ?_
  refine q_iaddN hx hb dL_law_2160 ?_
  refine va_sld hx hb hX hbl0 hbA hS (nI_in (by omega) (by omega)) dL_law_2161 ?_
  rw [← es5]
  refine lv_i2l hx hb dL_law_2162 rfl ?_
  refine lv_ldc2 hx hb C.2.2.2.2.1 (C.2.2.2.2.2.1 _ g1484) dL_law_2163 ?_
  refine lv_land hx hb dL_law_2166 ?_
  refine lv_lor hx hb dL_law_2167 ?_
  rw [← eq4]
  refine q_callV (rest := []) C (wl_filter l D cy N0 hh1 x y ou fo gr n S Wo s1 s2 s3 q4 j1 hp hn) kX8_filter g1437 g1438 rfl g1439 g4 hP hS hy1 (by first | decide | omega) hl.1 rfl (by decide) (by first | decide | omega) dL_law_2168 (fun q ce E h' H1 locs1 hE => hE.elim) (fun v hh2 H locs hq hP hS => ?_)
  obtain ⟨rfl, W2, j2, p2, hcd, hw2⟩ := hq
  have hb2 : W2.2.1 = ((xs_filter (xF S) S Wo s1 s2 s3 q4).2.2).2.1 := congrArg Prod.fst hw2
  obtain ⟨fi2, re2, rc2, rs2, so2, ot2, cn2, la2, hy2⟩ := j2.yo
  refine lv_aload_n hx hb dL_law_2171 rfl (lv_at hl 3 rfl) ?_
  refine q_callV (rest := []) C (c_X8_thrown l D cy N0 hh2 y W2.1.1 W2.1.2.1 W2.1.2.2.1 W2.1.2.2.2.1 W2.1.2.2.2.2.1 fi2 re2 rc2 rs2 so2 ot2 cn2 la2 W2.1.2.2.2.2.2.1 W2.1.2.2.2.2.2.2.1 W2.1.2.2.2.2.2.2.2.1 W2.1.2.2.2.2.2.2.2.2.1 W2.1.2.2.2.2.2.2.2.2.2.1 W2.1.2.2.2.2.2.2.2.2.2.2.1 W2.1.2.2.2.2.2.2.2.2.2.2.2.1 (nI W2.2.1.1) (nI W2.2.2.1) W2.1.2.2.2.2.2.2.2.2.2.2.2.2 hy2) kX8_thrown g1238 g1239 rfl g1240 g4 hP hS hy2 (by first | decide | omega) hl.1 rfl (by decide) (by first | decide | omega) dL_law_2172 (fun q ce E h' H1 locs1 hE => hE.elim) (fun v hh3 H locs hq hP hS => ?_)
  obtain ⟨rfl, rfl⟩ := hq
  rw [hcd]
  refine lv_iload hx hb dL_law_2175 (lv_at hl 0 rfl) ?_
  refine lv_icmp_eq (tgt := 2182) hx hb dL_law_2177 (by decide) (fun _ => ?_) (fun c9 => absurd rfl c9)
  refine lv_goto (tgt := 2940) hx hb dL_law_2182 (by decide) ?_
  exact kend ls H locs _ _ _ fo _ W2 j2 p2 (by rw [hb2]; omega) (by rw [hb2]; omega) hP hS (lv_sub hl [1, 2, 3, 4, 5] rfl)
theorem dL_law_2185 : decode cL_law 2185 = .ok (.aload_n 1, 1) := by decide +kernel
theorem dL_law_2186 : decode cL_law 2186 = .ok (.aload_n 0, 1) := by decide +kernel
theorem dL_law_2187 : decode cL_law 2187 = .ok (.iload 4, 2) := by decide +kernel
theorem dL_law_2189 : decode cL_law 2189 = .ok (.iconst 1, 1) := by decide +kernel
theorem dL_law_2190 : decode cL_law 2190 = .ok (.iadd, 1) := by decide +kernel
theorem dL_law_2191 : decode cL_law 2191 = .ok (.iaload, 1) := by decide +kernel
theorem dL_law_2192 : decode cL_law 2192 = .ok (.aload_n 0, 1) := by decide +kernel
theorem dL_law_2193 : decode cL_law 2193 = .ok (.iload 4, 2) := by decide +kernel
theorem dL_law_2195 : decode cL_law 2195 = .ok (.iconst 2, 1) := by decide +kernel
theorem dL_law_2196 : decode cL_law 2196 = .ok (.iadd, 1) := by decide +kernel
theorem dL_law_2197 : decode cL_law 2197 = .ok (.iaload, 1) := by decide +kernel
theorem dL_law_2198 : decode cL_law 2198 = .ok (.i2l, 1) := by decide +kernel
theorem dL_law_2199 : decode cL_law 2199 = .ok (.bipush 32, 2) := by decide +kernel
theorem dL_law_2201 : decode cL_law 2201 = .ok (.lshl, 1) := by decide +kernel
theorem dL_law_2202 : decode cL_law 2202 = .ok (.aload_n 0, 1) := by decide +kernel
theorem dL_law_2203 : decode cL_law 2203 = .ok (.iload 4, 2) := by decide +kernel
theorem dL_law_2205 : decode cL_law 2205 = .ok (.iconst 3, 1) := by decide +kernel
theorem dL_law_2206 : decode cL_law 2206 = .ok (.iadd, 1) := by decide +kernel
theorem dL_law_2207 : decode cL_law 2207 = .ok (.iaload, 1) := by decide +kernel
theorem dL_law_2208 : decode cL_law 2208 = .ok (.i2l, 1) := by decide +kernel
theorem dL_law_2209 : decode cL_law 2209 = .ok (.ldc2_w 161, 3) := by decide +kernel
theorem dL_law_2212 : decode cL_law 2212 = .ok (.land, 1) := by decide +kernel
theorem dL_law_2213 : decode cL_law 2213 = .ok (.lor, 1) := by decide +kernel
theorem dL_law_2214 : decode cL_law 2214 = .ok (.aload_n 0, 1) := by decide +kernel
theorem dL_law_2215 : decode cL_law 2215 = .ok (.iload 4, 2) := by decide +kernel
theorem dL_law_2217 : decode cL_law 2217 = .ok (.iconst 4, 1) := by decide +kernel
theorem dL_law_2218 : decode cL_law 2218 = .ok (.iadd, 1) := by decide +kernel
theorem dL_law_2219 : decode cL_law 2219 = .ok (.iaload, 1) := by decide +kernel
theorem dL_law_2220 : decode cL_law 2220 = .ok (.aload_n 0, 1) := by decide +kernel
theorem dL_law_2221 : decode cL_law 2221 = .ok (.iload 4, 2) := by decide +kernel
theorem dL_law_2223 : decode cL_law 2223 = .ok (.iconst 5, 1) := by decide +kernel
theorem dL_law_2224 : decode cL_law 2224 = .ok (.iadd, 1) := by decide +kernel
theorem dL_law_2225 : decode cL_law 2225 = .ok (.iaload, 1) := by decide +kernel
theorem dL_law_2226 : decode cL_law 2226 = .ok (.i2l, 1) := by decide +kernel
theorem dL_law_2227 : decode cL_law 2227 = .ok (.bipush 32, 2) := by decide +kernel
theorem dL_law_2229 : decode cL_law 2229 = .ok (.lshl, 1) := by decide +kernel
theorem dL_law_2230 : decode cL_law 2230 = .ok (.aload_n 0, 1) := by decide +kernel
theorem dL_law_2231 : decode cL_law 2231 = .ok (.iload 4, 2) := by decide +kernel
theorem dL_law_2233 : decode cL_law 2233 = .ok (.bipush 6, 2) := by decide +kernel
theorem dL_law_2235 : decode cL_law 2235 = .ok (.iadd, 1) := by decide +kernel
theorem dL_law_2236 : decode cL_law 2236 = .ok (.iaload, 1) := by decide +kernel
theorem dL_law_2237 : decode cL_law 2237 = .ok (.i2l, 1) := by decide +kernel
theorem dL_law_2238 : decode cL_law 2238 = .ok (.ldc2_w 161, 3) := by decide +kernel
theorem dL_law_2241 : decode cL_law 2241 = .ok (.land, 1) := by decide +kernel
theorem dL_law_2242 : decode cL_law 2242 = .ok (.lor, 1) := by decide +kernel
theorem dL_law_2243 : decode cL_law 2243 = .ok (.invokestatic 227, 3) := by decide +kernel
theorem dL_law_2246 : decode cL_law 2246 = .ok (.istore 5, 2) := by decide +kernel
theorem dL_law_2248 : decode cL_law 2248 = .ok (.aload_n 2, 1) := by decide +kernel
theorem dL_law_2249 : decode cL_law 2249 = .ok (.aload_n 0, 1) := by decide +kernel
theorem dL_law_2250 : decode cL_law 2250 = .ok (.iload 4, 2) := by decide +kernel
theorem dL_law_2252 : decode cL_law 2252 = .ok (.iconst 1, 1) := by decide +kernel
theorem dL_law_2253 : decode cL_law 2253 = .ok (.iadd, 1) := by decide +kernel
theorem dL_law_2254 : decode cL_law 2254 = .ok (.iaload, 1) := by decide +kernel
theorem dL_law_2255 : decode cL_law 2255 = .ok (.aload_n 0, 1) := by decide +kernel
theorem dL_law_2256 : decode cL_law 2256 = .ok (.iload 4, 2) := by decide +kernel
theorem dL_law_2258 : decode cL_law 2258 = .ok (.iconst 2, 1) := by decide +kernel
theorem dL_law_2259 : decode cL_law 2259 = .ok (.iadd, 1) := by decide +kernel
theorem dL_law_2260 : decode cL_law 2260 = .ok (.iaload, 1) := by decide +kernel
theorem dL_law_2261 : decode cL_law 2261 = .ok (.i2l, 1) := by decide +kernel
theorem dL_law_2262 : decode cL_law 2262 = .ok (.bipush 32, 2) := by decide +kernel
theorem dL_law_2264 : decode cL_law 2264 = .ok (.lshl, 1) := by decide +kernel
theorem dL_law_2265 : decode cL_law 2265 = .ok (.aload_n 0, 1) := by decide +kernel
theorem dL_law_2266 : decode cL_law 2266 = .ok (.iload 4, 2) := by decide +kernel
theorem dL_law_2268 : decode cL_law 2268 = .ok (.iconst 3, 1) := by decide +kernel
theorem dL_law_2269 : decode cL_law 2269 = .ok (.iadd, 1) := by decide +kernel
theorem dL_law_2270 : decode cL_law 2270 = .ok (.iaload, 1) := by decide +kernel
theorem dL_law_2271 : decode cL_law 2271 = .ok (.i2l, 1) := by decide +kernel
theorem dL_law_2272 : decode cL_law 2272 = .ok (.ldc2_w 161, 3) := by decide +kernel
theorem dL_law_2275 : decode cL_law 2275 = .ok (.land, 1) := by decide +kernel
theorem dL_law_2276 : decode cL_law 2276 = .ok (.lor, 1) := by decide +kernel
theorem dL_law_2277 : decode cL_law 2277 = .ok (.aload_n 0, 1) := by decide +kernel
theorem dL_law_2278 : decode cL_law 2278 = .ok (.iload 4, 2) := by decide +kernel
theorem dL_law_2280 : decode cL_law 2280 = .ok (.iconst 4, 1) := by decide +kernel
theorem dL_law_2281 : decode cL_law 2281 = .ok (.iadd, 1) := by decide +kernel
theorem dL_law_2282 : decode cL_law 2282 = .ok (.iaload, 1) := by decide +kernel
theorem dL_law_2283 : decode cL_law 2283 = .ok (.aload_n 0, 1) := by decide +kernel
theorem dL_law_2284 : decode cL_law 2284 = .ok (.iload 4, 2) := by decide +kernel
theorem dL_law_2286 : decode cL_law 2286 = .ok (.iconst 5, 1) := by decide +kernel
theorem dL_law_2287 : decode cL_law 2287 = .ok (.iadd, 1) := by decide +kernel
theorem dL_law_2288 : decode cL_law 2288 = .ok (.iaload, 1) := by decide +kernel
theorem dL_law_2289 : decode cL_law 2289 = .ok (.i2l, 1) := by decide +kernel
theorem dL_law_2290 : decode cL_law 2290 = .ok (.bipush 32, 2) := by decide +kernel
theorem dL_law_2292 : decode cL_law 2292 = .ok (.lshl, 1) := by decide +kernel
theorem dL_law_2293 : decode cL_law 2293 = .ok (.aload_n 0, 1) := by decide +kernel
theorem dL_law_2294 : decode cL_law 2294 = .ok (.iload 4, 2) := by decide +kernel
theorem dL_law_2296 : decode cL_law 2296 = .ok (.bipush 6, 2) := by decide +kernel
theorem dL_law_2298 : decode cL_law 2298 = .ok (.iadd, 1) := by decide +kernel
theorem dL_law_2299 : decode cL_law 2299 = .ok (.iaload, 1) := by decide +kernel
theorem dL_law_2300 : decode cL_law 2300 = .ok (.i2l, 1) := by decide +kernel
theorem dL_law_2301 : decode cL_law 2301 = .ok (.ldc2_w 161, 3) := by decide +kernel
theorem dL_law_2304 : decode cL_law 2304 = .ok (.land, 1) := by decide +kernel
theorem dL_law_2305 : decode cL_law 2305 = .ok (.lor, 1) := by decide +kernel
theorem dL_law_2306 : decode cL_law 2306 = .ok (.invokevirtual 230, 3) := by decide +kernel
theorem dL_law_2309 : decode cL_law 2309 = .ok (.aload_n 2, 1) := by decide +kernel
theorem dL_law_2310 : decode cL_law 2310 = .ok (.invokevirtual 147, 3) := by decide +kernel
theorem dL_law_2313 : decode cL_law 2313 = .ok (.iload 5, 2) := by decide +kernel
theorem dL_law_2315 : decode cL_law 2315 = .ok (.if_icmp .eq 5, 3) := by decide +kernel
theorem dL_law_2320 : decode cL_law 2320 = .ok (.goto 620, 3) := by decide +kernel
set_option maxRecDepth 100000 in
set_option maxHeartbeats 4000000 in
theorem lc_iterate {p : Program} {l : Launch} {e : Env} {mc ms : Nat} {s : State} {m : MethodId} {below : List Frame} {meth : Method} {c : Code} {H : Heap} {locs : List Loc} {cells slots : Nat} {Q : State → Prop} {rt0 : Option FieldType} {nm0 : String} {D : va_G} {cy : Nat → ClassId} {N0 : Nat} {tb : List ExceptionTableEntry} {h : qH} {ls : Array Slot} {b L : Nat} {xs : Nat → Int32} {x y ou : Nat} {fo : Nat → Int64} {gr : Int32} {n i C1 C2 : Nat} {S : Nat → qSlot} {Wo : qWo} (C : qX p l s m #[Value.ref b] meth c RL cL_law 8 rt0 nm0 D cy N0 tb) (hX : va_X b L xs s s.heap) (hbl0 : b < s.heap.size) (hbA : ¬ qA N0 b) (hP : qP D N0 h H) (hS : va_S (qA N0) s.heap H locs) (hi : i + 7 ≤ L) (hL : L ≤ 449) (hn : n < 64) (j : JZ cy h x y ou fo gr n S Wo S Wo) (hp : PI gr n S Wo) (hc1 : cells ≤ C1 + t1 n + Wo.2.1.1 + qP1 Wo.2.1) (hc2 : slots ≤ C2 + t2 n + 10 * Wo.2.1.1 + qP2 Wo.2.1) (hmc : C1 + 530000 ≤ mc) (hms : C2 + 5520000 ≤ ms) (hl : lv_has ls 8 [(4, .int (nI i)), (3, .ref ou), (2, .ref y), (1, .ref x), (0, .ref b)]) (kend : ∀ (ls : Array Slot) (H : Heap) (locs : List Loc) (c1 c2 : Nat) (h : qH) (fo : Nat → Int64) (S : Nat → qSlot) (Wo : qWo), JZ cy h x y ou fo gr (n + 1) S Wo S Wo → PI gr (n + 1) S Wo → c1 ≤ C1 + t1 (n + 1) + Wo.2.1.1 + qP1 Wo.2.1 → c2 ≤ C2 + t2 (n + 1) + 10 * Wo.2.1.1 + qP2 Wo.2.1 → qP D N0 h H → va_S (qA N0) s.heap H locs → lv_has ls 8 [(4, .int (nI i)), (3, .ref ou), (2, .ref y), (1, .ref x), (0, .ref b)] → W p l e (qR 2048 84000 mc ms) s m #[Value.ref b] below meth c H locs c1 c2 Q (F0 m 2940 ls [])) : W p l e (qR 2048 84000 mc ms) s m #[Value.ref b] below meth c H locs cells slots Q (F0 m 2185 ls []) := by
  have hx := C.1
  have hb := C.2.1
  have h1L := t1_le (n + 1) (by omega)
  have h2L := t2_le (n + 1) (by omega)
  have e1L : t1 (n + 1) = t1 n + (1201 + 212 * n) := rfl
  have e2L : t2 (n + 1) = t2 n + (13300 + n * rMs n 7) := rfl
  have hb0 := hp.bnd (by omega)
  refine lv_aload_n hx hb dL_law_2185 rfl (lv_at hl 3 rfl) ?_
  refine lv_aload_n hx hb dL_law_2186 rfl (lv_at hl 4 rfl) ?_
  refine lv_iload hx hb dL_law_2187 (lv_at hl 0 rfl) ?_
  refine lv_iconst (v := nI 1) hx hb dL_law_2189 (by decide) ?_
  refine q_iaddN hx hb dL_law_2190 ?_
  refine va_sld hx hb hX hbl0 hbA hS (nI_in (by omega) (by omega)) dL_law_2191 ?_
  refine lv_topi (fun s1 es1 => ?_)
  refine lv_aload_n hx hb dL_law_2192 rfl (lv_at hl 4 rfl) ?_
  refine lv_iload hx hb dL_law_2193 (lv_at hl 0 rfl) ?_
  refine lv_iconst (v := nI 2) hx hb dL_law_2195 (by decide) ?_
  refine q_iaddN hx hb dL_law_2196 ?_
  refine va_sld hx hb hX hbl0 hbA hS (nI_in (by omega) (by omega)) dL_law_2197 ?_
  refine lv_topi (fun s2 es2 => ?_)
  refine lv_i2l hx hb dL_law_2198 rfl ?_
  refine lv_bipush (v := nI 32) hx hb dL_law_2199 (by decide) ?_
  refine lv_lshl hx hb dL_law_2201 rfl ?_
  refine lv_aload_n hx hb dL_law_2202 rfl (lv_at hl 4 rfl) ?_
  refine lv_iload hx hb dL_law_2203 (lv_at hl 0 rfl) ?_
  refine lv_iconst (v := nI 3) hx hb dL_law_2205 (by decide) ?_
  refine q_iaddN hx hb dL_law_2206 ?_
  refine va_sld hx hb hX hbl0 hbA hS (nI_in (by omega) (by omega)) dL_law_2207 ?_
  refine lv_topi (fun s3 es3 => ?_)
  refine lv_i2l hx hb dL_law_2208 rfl ?_
  refine lv_ldc2 hx hb C.2.2.2.2.1 (C.2.2.2.2.2.1 _ g1484) dL_law_2209 ?_
  refine lv_land hx hb dL_law_2212 ?_
  refine lv_lor hx hb dL_law_2213 ?_
  refine lv_topl (fun q2 eq2 => ?_)
  refine lv_aload_n hx hb dL_law_2214 rfl (lv_at hl 4 rfl) ?_
  refine lv_iload hx hb dL_law_2215 (lv_at hl 0 rfl) ?_
  refine lv_iconst (v := nI 4) hx hb dL_law_2217 (by decide) ?_
  refine q_iaddN hx hb dL_law_2218 ?_
  refine va_sld hx hb hX hbl0 hbA hS (nI_in (by omega) (by omega)) dL_law_2219 ?_
  refine lv_topi (fun s4 es4 => ?_)
  refine lv_aload_n hx hb dL_law_2220 rfl (lv_at hl 4 rfl) ?_
  refine lv_iload hx hb dL_law_2221 (lv_at hl 0 rfl) ?_
  refine lv_iconst (v := nI 5) hx hb dL_law_2223 (by decide) ?_
  refine q_iaddN hx hb dL_law_2224 ?_
  refine va_sld hx hb hX hbl0 hbA hS (nI_in (by omega) (by omega)) dL_law_2225 ?_
  refine lv_topi (fun s5 es5 => ?_)
  refine lv_i2l hx hb dL_law_2226 rfl ?_
  refine lv_bipush (v := nI 32) hx hb dL_law_2227 (by decide) ?_
  refine lv_lshl hx hb dL_law_2229 rfl ?_
  refine lv_aload_n hx hb dL_law_2230 rfl (lv_at hl 4 rfl) ?_
  refine lv_iload hx hb dL_law_2231 (lv_at hl 0 rfl) ?_
  refine lv_bipush (v := nI 6) hx hb dL_law_2233 (by decide) ?_
  refine q_iaddN hx hb dL_law_2235 ?_
  refine va_sld hx hb hX hbl0 hbA hS (nI_in (by omega) (by omega)) dL_law_2236 ?_
  refine lv_topi (fun s6 es6 => ?_)
  refine lv_i2l hx hb dL_law_2237 rfl ?_
  refine lv_ldc2 hx hb C.2.2.2.2.1 (C.2.2.2.2.2.1 _ g1484) dL_law_2238 ?_
  refine lv_land hx hb dL_law_2241 ?_
  refine lv_lor hx hb dL_law_2242 ?_
  refine lv_topl (fun q5 eq5 => ?_)
  have hpK : PI gr (n + 1) ((xs_iterate S Wo s1 q2 s4 q5).2.1) ((xs_iterate S Wo s1 q2 s4 q5).2.2) := hp.iterate
  have hbK := hpK.bnd (by omega)
  have hmo : MO Wo ((xs_iterate S Wo s1 q2 s4 q5).2.2) := mo_iterate
  have hqm := qP1_mo hmo hb0.2.2.2
  have hm1 := hmo.1
  refine q_callSW (rest := []) C (zl_iterate l D cy N0 h x y ou fo gr n S Wo s1 q2 s4 q5 j hp hn) kwL_iterate g966 g967 hP hS (by omega) hl.1 rfl (by decide) (by omega) dL_law_2243 (fun v hh1 H locs hq hP hS => ?_)
  obtain ⟨rfl, j1⟩ := hq
  obtain ⟨fi, re, rc, rs, so, ot, cn, la, hy1⟩ := j1.yo
  refine lv_istore (lv' := [(5, .int ((xs_iterate S Wo s1 q2 s4 q5).1)), (4, .int (nI i)), (3, .ref ou), (2, .ref y), (1, .ref x), (0, .ref b)]) hx hb dL_law_2246 hl (by decide) rfl (fun ls hl => ?_)
  refine lv_aload_n hx hb dL_law_2248 rfl (lv_at hl 3 rfl) ?_
  refine lv_aload_n hx hb dL_law_2249 rfl (lv_at hl 5 rfl) ?_
  refine lv_iload hx hb dL_law_2250 (lv_at hl 1 rfl) ?_
  refine lv_iconst (v := nI 1) hx hb dL_law_2252 (by decide) ?_
  refine q_iaddN hx hb dL_law_2253 ?_
  refine va_sld hx hb hX hbl0 hbA hS (nI_in (by omega) (by omega)) dL_law_2254 ?_
  rw [← es1]
  refine lv_aload_n hx hb dL_law_2255 rfl (lv_at hl 5 rfl) ?_
  refine lv_iload hx hb dL_law_2256 (lv_at hl 1 rfl) ?_
  refine lv_iconst (v := nI 2) hx hb dL_law_2258 (by decide) ?_
  refine q_iaddN hx hb dL_law_2259 ?_
  refine va_sld hx hb hX hbl0 hbA hS (nI_in (by omega) (by omega)) dL_law_2260 ?_
  rw [← es2]
  refine lv_i2l hx hb dL_law_2261 rfl ?_
  refine lv_bipush (v := nI 32) hx hb dL_law_2262 (by decide) ?_
  refine lv_lshl hx hb dL_law_2264 rfl ?_
  refine lv_aload_n hx hb dL_law_2265 rfl (lv_at hl 5 rfl) ?_
  refine lv_iload hx hb dL_law_2266 (lv_at hl 1 rfl) ?_
  refine lv_iconst (v := nI 3) hx hb dL_law_2268 (by decide) ?_
  refine q_iaddN hx hb dL_law_2269 ?_
  refine va_sld hx hb hX hbl0 hbA hS (nI_in (by omega) (by omega)) dL_law_2270 ?_
  rw [← es3]
  refine lv_i2l hx hb dL_law_2271 rfl ?_
  refine lv_ldc2 hx hb C.2.2.2.2.1 (C.2.2.2.2.2.1 _ g1484) dL_law_2272 ?_
  refine lv_land hx hb dL_law_2275 ?_
  refine lv_lor hx hb dL_law_2276 ?_
  rw [← eq2]
  refine lv_aload_n hx hb dL_law_2277 rfl (lv_at hl 5 rfl) ?_
  refine lv_iload hx hb dL_law_2278 (lv_at hl 1 rfl) ?_
  refine lv_iconst (v := nI 4) hx hb dL_law_2280 (by decide) ?_
  refine q_iaddN hx hb dL_law_2281 ?_
  refine va_sld hx hb hX hbl0 hbA hS (nI_in (by omega) (by omega)) dL_law_2282 ?_
  rw [← es4]
  refine lv_aload_n hx hb dL_law_2283 rfl (lv_at hl 5 rfl) ?_
  refine lv_iload hx hb dL_law_2284 (lv_at hl 1 rfl) ?_
  refine lv_iconst (v := nI 5) hx hb dL_law_2286 (by decide) ?_
  refine q_iaddN hx hb dL_law_2287 ?_
  refine va_sld hx hb hX hbl0 hbA hS (nI_in (by omega) (by omega)) dL_law_2288 ?_
  rw [← es5]
  refine lv_i2l hx hb dL_law_2289 rfl ?_
  refine lv_bipush (v := nI 32) hx hb dL_law_2290 (by decide) ?_
  refine lv_lshl hx hb dL_law_2292 rfl ?_
  refine lv_aload_n hx hb dL_law_2293 rfl (lv_at hl 5 rfl) ?_
  refine lv_iload hx hb dL_law_2294 (lv_at hl 1 rfl) ?_
  refine lv_bipush (v := nI 6) hx hb dL_law_2296 (by decide) ?_
  refine q_iaddN hx hb dL_law_2298 ?_
  refine va_sld hx hb hX hbl0 hbA hS (nI_in (by omega) (by omega)) dL_law_2299 ?_
  rw [← es6]
  refine lv_i2l hx hb dL_law_2300 rfl ?_
  refine lv_ldc2 hx hb C.2.2.2.2.1 (C.2.2.2.2.2.1 _ g1484) dL_law_2301 ?_
  refine lv_land hx hb dL_law_2304 ?_
  refine lv_lor hx hb dL_law_2305 ?_
  rw [← eq5]
  refine q_callV (rest := []) C (wl_iterate l D cy N0 hh1 x y ou fo gr n S Wo s1 q2 s4 q5 j1 hp hn) kX8_iterate g1441 g1442 rfl g1443 g4 hP hS hy1 (by first | decide | omega) hl.1 rfl (by decide) (by first | decide | omega) dL_law_2306 (fun q ce E h' H1 locs1 hE => hE.elim) (fun v hh2 H locs hq hP hS => ?_)
  obtain ⟨rfl, W2, j2, p2, hcd, hw2⟩ := hq
  have hb2 : W2.2.1 = ((xs_iterate S Wo s1 q2 s4 q5).2.2).2.1 := congrArg Prod.fst hw2
  obtain ⟨fi2, re2, rc2, rs2, so2, ot2, cn2, la2, hy2⟩ := j2.yo
  refine lv_aload_n hx hb dL_law_2309 rfl (lv_at hl 3 rfl) ?_
  refine q_callV (rest := []) C (c_X8_thrown l D cy N0 hh2 y W2.1.1 W2.1.2.1 W2.1.2.2.1 W2.1.2.2.2.1 W2.1.2.2.2.2.1 fi2 re2 rc2 rs2 so2 ot2 cn2 la2 W2.1.2.2.2.2.2.1 W2.1.2.2.2.2.2.2.1 W2.1.2.2.2.2.2.2.2.1 W2.1.2.2.2.2.2.2.2.2.1 W2.1.2.2.2.2.2.2.2.2.2.1 W2.1.2.2.2.2.2.2.2.2.2.2.1 W2.1.2.2.2.2.2.2.2.2.2.2.2.1 (nI W2.2.1.1) (nI W2.2.2.1) W2.1.2.2.2.2.2.2.2.2.2.2.2.2 hy2) kX8_thrown g1238 g1239 rfl g1240 g4 hP hS hy2 (by first | decide | omega) hl.1 rfl (by decide) (by first | decide | omega) dL_law_2310 (fun q ce E h' H1 locs1 hE => hE.elim) (fun v hh3 H locs hq hP hS => ?_)
  obtain ⟨rfl, rfl⟩ := hq
  rw [hcd]
  refine lv_iload hx hb dL_law_2313 (lv_at hl 0 rfl) ?_
  refine lv_icmp_eq (tgt := 2320) hx hb dL_law_2315 (by decide) (fun _ => ?_) (fun c9 => absurd rfl c9)
  refine lv_goto (tgt := 2940) hx hb dL_law_2320 (by decide) ?_
  exact kend ls H locs _ _ _ fo _ W2 j2 p2 (by rw [hb2]; omega) (by rw [hb2]; omega) hP hS (lv_sub hl [1, 2, 3, 4, 5] rfl)
theorem dL_law_2323 : decode cL_law 2323 = .ok (.aload_n 1, 1) := by decide +kernel
theorem dL_law_2324 : decode cL_law 2324 = .ok (.aload_n 0, 1) := by decide +kernel
theorem dL_law_2325 : decode cL_law 2325 = .ok (.iload 4, 2) := by decide +kernel
theorem dL_law_2327 : decode cL_law 2327 = .ok (.iconst 1, 1) := by decide +kernel
theorem dL_law_2328 : decode cL_law 2328 = .ok (.iadd, 1) := by decide +kernel
theorem dL_law_2329 : decode cL_law 2329 = .ok (.iaload, 1) := by decide +kernel
theorem dL_law_2330 : decode cL_law 2330 = .ok (.aload_n 0, 1) := by decide +kernel
theorem dL_law_2331 : decode cL_law 2331 = .ok (.iload 4, 2) := by decide +kernel
theorem dL_law_2333 : decode cL_law 2333 = .ok (.iconst 2, 1) := by decide +kernel
theorem dL_law_2334 : decode cL_law 2334 = .ok (.iadd, 1) := by decide +kernel
theorem dL_law_2335 : decode cL_law 2335 = .ok (.iaload, 1) := by decide +kernel
theorem dL_law_2336 : decode cL_law 2336 = .ok (.aload_n 0, 1) := by decide +kernel
theorem dL_law_2337 : decode cL_law 2337 = .ok (.iload 4, 2) := by decide +kernel
theorem dL_law_2339 : decode cL_law 2339 = .ok (.iconst 3, 1) := by decide +kernel
theorem dL_law_2340 : decode cL_law 2340 = .ok (.iadd, 1) := by decide +kernel
theorem dL_law_2341 : decode cL_law 2341 = .ok (.iaload, 1) := by decide +kernel
theorem dL_law_2342 : decode cL_law 2342 = .ok (.invokestatic 231, 3) := by decide +kernel
theorem dL_law_2345 : decode cL_law 2345 = .ok (.istore 5, 2) := by decide +kernel
theorem dL_law_2347 : decode cL_law 2347 = .ok (.aload_n 2, 1) := by decide +kernel
theorem dL_law_2348 : decode cL_law 2348 = .ok (.aload_n 0, 1) := by decide +kernel
theorem dL_law_2349 : decode cL_law 2349 = .ok (.iload 4, 2) := by decide +kernel
theorem dL_law_2351 : decode cL_law 2351 = .ok (.iconst 1, 1) := by decide +kernel
theorem dL_law_2352 : decode cL_law 2352 = .ok (.iadd, 1) := by decide +kernel
theorem dL_law_2353 : decode cL_law 2353 = .ok (.iaload, 1) := by decide +kernel
theorem dL_law_2354 : decode cL_law 2354 = .ok (.aload_n 0, 1) := by decide +kernel
theorem dL_law_2355 : decode cL_law 2355 = .ok (.iload 4, 2) := by decide +kernel
theorem dL_law_2357 : decode cL_law 2357 = .ok (.iconst 2, 1) := by decide +kernel
theorem dL_law_2358 : decode cL_law 2358 = .ok (.iadd, 1) := by decide +kernel
theorem dL_law_2359 : decode cL_law 2359 = .ok (.iaload, 1) := by decide +kernel
theorem dL_law_2360 : decode cL_law 2360 = .ok (.aload_n 0, 1) := by decide +kernel
theorem dL_law_2361 : decode cL_law 2361 = .ok (.iload 4, 2) := by decide +kernel
theorem dL_law_2363 : decode cL_law 2363 = .ok (.iconst 3, 1) := by decide +kernel
theorem dL_law_2364 : decode cL_law 2364 = .ok (.iadd, 1) := by decide +kernel
theorem dL_law_2365 : decode cL_law 2365 = .ok (.iaload, 1) := by decide +kernel
theorem dL_law_2366 : decode cL_law 2366 = .ok (.invokevirtual 234, 3) := by decide +kernel
theorem dL_law_2369 : decode cL_law 2369 = .ok (.aload_n 2, 1) := by decide +kernel
theorem dL_law_2370 : decode cL_law 2370 = .ok (.invokevirtual 147, 3) := by decide +kernel
theorem dL_law_2373 : decode cL_law 2373 = .ok (.iload 5, 2) := by decide +kernel
theorem dL_law_2375 : decode cL_law 2375 = .ok (.if_icmp .eq 5, 3) := by decide +kernel
theorem dL_law_2380 : decode cL_law 2380 = .ok (.goto 560, 3) := by decide +kernel
set_option maxRecDepth 100000 in
set_option maxHeartbeats 4000000 in
theorem lc_take {p : Program} {l : Launch} {e : Env} {mc ms : Nat} {s : State} {m : MethodId} {below : List Frame} {meth : Method} {c : Code} {H : Heap} {locs : List Loc} {cells slots : Nat} {Q : State → Prop} {rt0 : Option FieldType} {nm0 : String} {D : va_G} {cy : Nat → ClassId} {N0 : Nat} {tb : List ExceptionTableEntry} {h : qH} {ls : Array Slot} {b L : Nat} {xs : Nat → Int32} {x y ou : Nat} {fo : Nat → Int64} {gr : Int32} {n i C1 C2 : Nat} {S : Nat → qSlot} {Wo : qWo} (C : qX p l s m #[Value.ref b] meth c RL cL_law 8 rt0 nm0 D cy N0 tb) (hX : va_X b L xs s s.heap) (hbl0 : b < s.heap.size) (hbA : ¬ qA N0 b) (hP : qP D N0 h H) (hS : va_S (qA N0) s.heap H locs) (hi : i + 7 ≤ L) (hL : L ≤ 449) (hn : n < 64) (j : JZ cy h x y ou fo gr n S Wo S Wo) (hp : PI gr n S Wo) (hc1 : cells ≤ C1 + t1 n + Wo.2.1.1 + qP1 Wo.2.1) (hc2 : slots ≤ C2 + t2 n + 10 * Wo.2.1.1 + qP2 Wo.2.1) (hmc : C1 + 530000 ≤ mc) (hms : C2 + 5520000 ≤ ms) (hl : lv_has ls 8 [(4, .int (nI i)), (3, .ref ou), (2, .ref y), (1, .ref x), (0, .ref b)]) (kend : ∀ (ls : Array Slot) (H : Heap) (locs : List Loc) (c1 c2 : Nat) (h : qH) (fo : Nat → Int64) (S : Nat → qSlot) (Wo : qWo), JZ cy h x y ou fo gr (n + 1) S Wo S Wo → PI gr (n + 1) S Wo → c1 ≤ C1 + t1 (n + 1) + Wo.2.1.1 + qP1 Wo.2.1 → c2 ≤ C2 + t2 (n + 1) + 10 * Wo.2.1.1 + qP2 Wo.2.1 → qP D N0 h H → va_S (qA N0) s.heap H locs → lv_has ls 8 [(4, .int (nI i)), (3, .ref ou), (2, .ref y), (1, .ref x), (0, .ref b)] → W p l e (qR 2048 84000 mc ms) s m #[Value.ref b] below meth c H locs c1 c2 Q (F0 m 2940 ls [])) : W p l e (qR 2048 84000 mc ms) s m #[Value.ref b] below meth c H locs cells slots Q (F0 m 2323 ls []) := by
  have hx := C.1
  have hb := C.2.1
  have h1L := t1_le (n + 1) (by omega)
  have h2L := t2_le (n + 1) (by omega)
  have e1L : t1 (n + 1) = t1 n + (1201 + 212 * n) := rfl
  have e2L : t2 (n + 1) = t2 n + (13300 + n * rMs n 7) := rfl
  have hb0 := hp.bnd (by omega)
  refine lv_aload_n hx hb dL_law_2323 rfl (lv_at hl 3 rfl) ?_
  refine lv_aload_n hx hb dL_law_2324 rfl (lv_at hl 4 rfl) ?_
  refine lv_iload hx hb dL_law_2325 (lv_at hl 0 rfl) ?_
  refine lv_iconst (v := nI 1) hx hb dL_law_2327 (by decide) ?_
  refine q_iaddN hx hb dL_law_2328 ?_
  refine va_sld hx hb hX hbl0 hbA hS (nI_in (by omega) (by omega)) dL_law_2329 ?_
  refine lv_topi (fun s1 es1 => ?_)
  refine lv_aload_n hx hb dL_law_2330 rfl (lv_at hl 4 rfl) ?_
  refine lv_iload hx hb dL_law_2331 (lv_at hl 0 rfl) ?_
  refine lv_iconst (v := nI 2) hx hb dL_law_2333 (by decide) ?_
  refine q_iaddN hx hb dL_law_2334 ?_
  refine va_sld hx hb hX hbl0 hbA hS (nI_in (by omega) (by omega)) dL_law_2335 ?_
  refine lv_topi (fun s2 es2 => ?_)
  refine lv_aload_n hx hb dL_law_2336 rfl (lv_at hl 4 rfl) ?_
  refine lv_iload hx hb dL_law_2337 (lv_at hl 0 rfl) ?_
  refine lv_iconst (v := nI 3) hx hb dL_law_2339 (by decide) ?_
  refine q_iaddN hx hb dL_law_2340 ?_
  refine va_sld hx hb hX hbl0 hbA hS (nI_in (by omega) (by omega)) dL_law_2341 ?_
  refine lv_topi (fun s3 es3 => ?_)
  have hpK : PI gr (n + 1) ((xs_take S Wo s1 s2 s3).2.1) ((xs_take S Wo s1 s2 s3).2.2) := hp.take
  have hbK := hpK.bnd (by omega)
  have hmo : MO Wo ((xs_take S Wo s1 s2 s3).2.2) := mo_take
  have hqm := qP1_mo hmo hb0.2.2.2
  have hm1 := hmo.1
  refine q_callSW (rest := []) C (zl_take l D cy N0 h x y ou fo gr n S Wo s1 s2 s3 j hp hn) kwL_take g973 g974 hP hS (by omega) hl.1 rfl (by decide) (by omega) dL_law_2342 (fun v hh1 H locs hq hP hS => ?_)
  obtain ⟨rfl, j1⟩ := hq
  obtain ⟨fi, re, rc, rs, so, ot, cn, la, hy1⟩ := j1.yo
  refine lv_istore (lv' := [(5, .int ((xs_take S Wo s1 s2 s3).1)), (4, .int (nI i)), (3, .ref ou), (2, .ref y), (1, .ref x), (0, .ref b)]) hx hb dL_law_2345 hl (by decide) rfl (fun ls hl => ?_)
  refine lv_aload_n hx hb dL_law_2347 rfl (lv_at hl 3 rfl) ?_
  refine lv_aload_n hx hb dL_law_2348 rfl (lv_at hl 5 rfl) ?_
  refine lv_iload hx hb dL_law_2349 (lv_at hl 1 rfl) ?_
  refine lv_iconst (v := nI 1) hx hb dL_law_2351 (by decide) ?_
  refine q_iaddN hx hb dL_law_2352 ?_
  refine va_sld hx hb hX hbl0 hbA hS (nI_in (by omega) (by omega)) dL_law_2353 ?_
  rw [← es1]
  refine lv_aload_n hx hb dL_law_2354 rfl (lv_at hl 5 rfl) ?_
  refine lv_iload hx hb dL_law_2355 (lv_at hl 1 rfl) ?_
  refine lv_iconst (v := nI 2) hx hb dL_law_2357 (by decide) ?_
  refine q_iaddN hx hb dL_law_2358 ?_
  refine va_sld hx hb hX hbl0 hbA hS (nI_in (by omega) (by omega)) dL_law_2359 ?_
  rw [← es2]
  refine lv_aload_n hx hb dL_law_2360 rfl (lv_at hl 5 rfl) ?_
  refine lv_iload hx hb dL_law_2361 (lv_at hl 1 rfl) ?_
  refine lv_iconst (v := nI 3) hx hb dL_law_2363 (by decide) ?_
  refine q_iaddN hx hb dL_law_2364 ?_
  refine va_sld hx hb hX hbl0 hbA hS (nI_in (by omega) (by omega)) dL_law_2365 ?_
  rw [← es3]
  refine q_callV (rest := []) C (wl_take l D cy N0 hh1 x y ou fo gr n S Wo s1 s2 s3 j1 hp hn) kX8_take g1445 g1446 rfl g1447 g4 hP hS hy1 (by first | decide | omega) hl.1 rfl (by decide) (by first | decide | omega) dL_law_2366 (fun q ce E h' H1 locs1 hE => hE.elim) (fun v hh2 H locs hq hP hS => ?_)
  obtain ⟨rfl, W2, j2, p2, hcd, hw2⟩ := hq
  have hb2 : W2.2.1 = ((xs_take S Wo s1 s2 s3).2.2).2.1 := congrArg Prod.fst hw2
  obtain ⟨fi2, re2, rc2, rs2, so2, ot2, cn2, la2, hy2⟩ := j2.yo
  refine lv_aload_n hx hb dL_law_2369 rfl (lv_at hl 3 rfl) ?_
  refine q_callV (rest := []) C (c_X8_thrown l D cy N0 hh2 y W2.1.1 W2.1.2.1 W2.1.2.2.1 W2.1.2.2.2.1 W2.1.2.2.2.2.1 fi2 re2 rc2 rs2 so2 ot2 cn2 la2 W2.1.2.2.2.2.2.1 W2.1.2.2.2.2.2.2.1 W2.1.2.2.2.2.2.2.2.1 W2.1.2.2.2.2.2.2.2.2.1 W2.1.2.2.2.2.2.2.2.2.2.1 W2.1.2.2.2.2.2.2.2.2.2.2.1 W2.1.2.2.2.2.2.2.2.2.2.2.2.1 (nI W2.2.1.1) (nI W2.2.2.1) W2.1.2.2.2.2.2.2.2.2.2.2.2.2 hy2) kX8_thrown g1238 g1239 rfl g1240 g4 hP hS hy2 (by first | decide | omega) hl.1 rfl (by decide) (by first | decide | omega) dL_law_2370 (fun q ce E h' H1 locs1 hE => hE.elim) (fun v hh3 H locs hq hP hS => ?_)
  obtain ⟨rfl, rfl⟩ := hq
  rw [hcd]
  refine lv_iload hx hb dL_law_2373 (lv_at hl 0 rfl) ?_
  refine lv_icmp_eq (tgt := 2380) hx hb dL_law_2375 (by decide) (fun _ => ?_) (fun c9 => absurd rfl c9)
  refine lv_goto (tgt := 2940) hx hb dL_law_2380 (by decide) ?_
  exact kend ls H locs _ _ _ fo _ W2 j2 p2 (by rw [hb2]; omega) (by rw [hb2]; omega) hP hS (lv_sub hl [1, 2, 3, 4, 5] rfl)
theorem dL_law_2383 : decode cL_law 2383 = .ok (.aload_n 1, 1) := by decide +kernel
theorem dL_law_2384 : decode cL_law 2384 = .ok (.aload_n 0, 1) := by decide +kernel
theorem dL_law_2385 : decode cL_law 2385 = .ok (.iload 4, 2) := by decide +kernel
theorem dL_law_2387 : decode cL_law 2387 = .ok (.iconst 1, 1) := by decide +kernel
theorem dL_law_2388 : decode cL_law 2388 = .ok (.iadd, 1) := by decide +kernel
theorem dL_law_2389 : decode cL_law 2389 = .ok (.iaload, 1) := by decide +kernel
theorem dL_law_2390 : decode cL_law 2390 = .ok (.aload_n 0, 1) := by decide +kernel
theorem dL_law_2391 : decode cL_law 2391 = .ok (.iload 4, 2) := by decide +kernel
theorem dL_law_2393 : decode cL_law 2393 = .ok (.iconst 2, 1) := by decide +kernel
theorem dL_law_2394 : decode cL_law 2394 = .ok (.iadd, 1) := by decide +kernel
theorem dL_law_2395 : decode cL_law 2395 = .ok (.iaload, 1) := by decide +kernel
theorem dL_law_2396 : decode cL_law 2396 = .ok (.aload_n 0, 1) := by decide +kernel
theorem dL_law_2397 : decode cL_law 2397 = .ok (.iload 4, 2) := by decide +kernel
theorem dL_law_2399 : decode cL_law 2399 = .ok (.iconst 3, 1) := by decide +kernel
theorem dL_law_2400 : decode cL_law 2400 = .ok (.iadd, 1) := by decide +kernel
theorem dL_law_2401 : decode cL_law 2401 = .ok (.iaload, 1) := by decide +kernel
theorem dL_law_2402 : decode cL_law 2402 = .ok (.aload_n 3, 1) := by decide +kernel
theorem dL_law_2403 : decode cL_law 2403 = .ok (.invokestatic 235, 3) := by decide +kernel
theorem dL_law_2406 : decode cL_law 2406 = .ok (.istore 5, 2) := by decide +kernel
theorem dL_law_2408 : decode cL_law 2408 = .ok (.aload_n 2, 1) := by decide +kernel
theorem dL_law_2409 : decode cL_law 2409 = .ok (.aload_n 0, 1) := by decide +kernel
theorem dL_law_2410 : decode cL_law 2410 = .ok (.iload 4, 2) := by decide +kernel
theorem dL_law_2412 : decode cL_law 2412 = .ok (.iconst 1, 1) := by decide +kernel
theorem dL_law_2413 : decode cL_law 2413 = .ok (.iadd, 1) := by decide +kernel
theorem dL_law_2414 : decode cL_law 2414 = .ok (.iaload, 1) := by decide +kernel
theorem dL_law_2415 : decode cL_law 2415 = .ok (.aload_n 0, 1) := by decide +kernel
theorem dL_law_2416 : decode cL_law 2416 = .ok (.iload 4, 2) := by decide +kernel
theorem dL_law_2418 : decode cL_law 2418 = .ok (.iconst 2, 1) := by decide +kernel
theorem dL_law_2419 : decode cL_law 2419 = .ok (.iadd, 1) := by decide +kernel
theorem dL_law_2420 : decode cL_law 2420 = .ok (.iaload, 1) := by decide +kernel
theorem dL_law_2421 : decode cL_law 2421 = .ok (.aload_n 0, 1) := by decide +kernel
theorem dL_law_2422 : decode cL_law 2422 = .ok (.iload 4, 2) := by decide +kernel
theorem dL_law_2424 : decode cL_law 2424 = .ok (.iconst 3, 1) := by decide +kernel
theorem dL_law_2425 : decode cL_law 2425 = .ok (.iadd, 1) := by decide +kernel
theorem dL_law_2426 : decode cL_law 2426 = .ok (.iaload, 1) := by decide +kernel
theorem dL_law_2427 : decode cL_law 2427 = .ok (.invokevirtual 237, 3) := by decide +kernel
theorem dL_law_2430 : decode cL_law 2430 = .ok (.istore 6, 2) := by decide +kernel
theorem dL_law_2432 : decode cL_law 2432 = .ok (.aload_n 2, 1) := by decide +kernel
theorem dL_law_2433 : decode cL_law 2433 = .ok (.invokevirtual 147, 3) := by decide +kernel
theorem dL_law_2436 : decode cL_law 2436 = .ok (.iload 5, 2) := by decide +kernel
theorem dL_law_2438 : decode cL_law 2438 = .ok (.if_icmp .eq 5, 3) := by decide +kernel
theorem dL_law_2443 : decode cL_law 2443 = .ok (.iload 5, 2) := by decide +kernel
theorem dL_law_2445 : decode cL_law 2445 = .ok (.ifCond .ne 15, 3) := by decide +kernel
theorem dL_law_2448 : decode cL_law 2448 = .ok (.aload_n 3, 1) := by decide +kernel
theorem dL_law_2449 : decode cL_law 2449 = .ok (.iconst 0, 1) := by decide +kernel
theorem dL_law_2450 : decode cL_law 2450 = .ok (.laload, 1) := by decide +kernel
theorem dL_law_2451 : decode cL_law 2451 = .ok (.iload 6, 2) := by decide +kernel
theorem dL_law_2453 : decode cL_law 2453 = .ok (.i2l, 1) := by decide +kernel
theorem dL_law_2454 : decode cL_law 2454 = .ok (.lcmp, 1) := by decide +kernel
theorem dL_law_2455 : decode cL_law 2455 = .ok (.ifCond .eq 5, 3) := by decide +kernel
theorem dL_law_2460 : decode cL_law 2460 = .ok (.goto 480, 3) := by decide +kernel
set_option maxRecDepth 100000 in
set_option maxHeartbeats 4000000 in
theorem lc_list {p : Program} {l : Launch} {e : Env} {mc ms : Nat} {s : State} {m : MethodId} {below : List Frame} {meth : Method} {c : Code} {H : Heap} {locs : List Loc} {cells slots : Nat} {Q : State → Prop} {rt0 : Option FieldType} {nm0 : String} {D : va_G} {cy : Nat → ClassId} {N0 : Nat} {tb : List ExceptionTableEntry} {h : qH} {ls : Array Slot} {b L : Nat} {xs : Nat → Int32} {x y ou : Nat} {fo : Nat → Int64} {gr : Int32} {n i C1 C2 : Nat} {S : Nat → qSlot} {Wo : qWo} (C : qX p l s m #[Value.ref b] meth c RL cL_law 8 rt0 nm0 D cy N0 tb) (hX : va_X b L xs s s.heap) (hbl0 : b < s.heap.size) (hbA : ¬ qA N0 b) (hP : qP D N0 h H) (hS : va_S (qA N0) s.heap H locs) (hi : i + 7 ≤ L) (hL : L ≤ 449) (hn : n < 64) (j : JZ cy h x y ou fo gr n S Wo S Wo) (hp : PI gr n S Wo) (hc1 : cells ≤ C1 + t1 n + Wo.2.1.1 + qP1 Wo.2.1) (hc2 : slots ≤ C2 + t2 n + 10 * Wo.2.1.1 + qP2 Wo.2.1) (hmc : C1 + 530000 ≤ mc) (hms : C2 + 5520000 ≤ ms) (hl : lv_has ls 8 [(4, .int (nI i)), (3, .ref ou), (2, .ref y), (1, .ref x), (0, .ref b)]) (kend : ∀ (ls : Array Slot) (H : Heap) (locs : List Loc) (c1 c2 : Nat) (h : qH) (fo : Nat → Int64) (S : Nat → qSlot) (Wo : qWo), JZ cy h x y ou fo gr (n + 1) S Wo S Wo → PI gr (n + 1) S Wo → c1 ≤ C1 + t1 (n + 1) + Wo.2.1.1 + qP1 Wo.2.1 → c2 ≤ C2 + t2 (n + 1) + 10 * Wo.2.1.1 + qP2 Wo.2.1 → qP D N0 h H → va_S (qA N0) s.heap H locs → lv_has ls 8 [(4, .int (nI i)), (3, .ref ou), (2, .ref y), (1, .ref x), (0, .ref b)] → W p l e (qR 2048 84000 mc ms) s m #[Value.ref b] below meth c H locs c1 c2 Q (F0 m 2940 ls [])) : W p l e (qR 2048 84000 mc ms) s m #[Value.ref b] below meth c H locs cells slots Q (F0 m 2383 ls []) := by
  have hx := C.1
  have hb := C.2.1
  have h1L := t1_le (n + 1) (by omega)
  have h2L := t2_le (n + 1) (by omega)
  have e1L : t1 (n + 1) = t1 n + (1201 + 212 * n) := rfl
  have e2L : t2 (n + 1) = t2 n + (13300 + n * rMs n 7) := rfl
  have hb0 := hp.bnd (by omega)
  refine lv_aload_n hx hb dL_law_2383 rfl (lv_at hl 3 rfl) ?_
  refine lv_aload_n hx hb dL_law_2384 rfl (lv_at hl 4 rfl) ?_
  refine lv_iload hx hb dL_law_2385 (lv_at hl 0 rfl) ?_
  refine lv_iconst (v := nI 1) hx hb dL_law_2387 (by decide) ?_
  refine q_iaddN hx hb dL_law_2388 ?_
  refine va_sld hx hb hX hbl0 hbA hS (nI_in (by omega) (by omega)) dL_law_2389 ?_
  refine lv_topi (fun s1 es1 => ?_)
  refine lv_aload_n hx hb dL_law_2390 rfl (lv_at hl 4 rfl) ?_
  refine lv_iload hx hb dL_law_2391 (lv_at hl 0 rfl) ?_
  refine lv_iconst (v := nI 2) hx hb dL_law_2393 (by decide) ?_
  refine q_iaddN hx hb dL_law_2394 ?_
  refine va_sld hx hb hX hbl0 hbA hS (nI_in (by omega) (by omega)) dL_law_2395 ?_
  refine lv_topi (fun s2 es2 => ?_)
  refine lv_aload_n hx hb dL_law_2396 rfl (lv_at hl 4 rfl) ?_
  refine lv_iload hx hb dL_law_2397 (lv_at hl 0 rfl) ?_
  refine lv_iconst (v := nI 3) hx hb dL_law_2399 (by decide) ?_
  refine q_iaddN hx hb dL_law_2400 ?_
  refine va_sld hx hb hX hbl0 hbA hS (nI_in (by omega) (by omega)) dL_law_2401 ?_
  refine lv_topi (fun s3 es3 => ?_)
  refine lv_aload_n hx hb dL_law_2402 rfl (lv_at hl 1 rfl) ?_
  have hpK : PI gr (n + 1) ((xs_list (xF S) S Wo s1 s2 s3).2.2.1) ((xs_list (xF S) S Wo s1 s2 s3).2.2.2) := hp.list
  have hbK := hpK.bnd (by omega)
  have hmo : MO Wo ((xs_list (xF S) S Wo s1 s2 s3).2.2.2) := mo_list hp
  have hqm := qP1_mo hmo hb0.2.2.2
  have hm1 := hmo.1
  refine q_callSW (rest := []) C (zl_list l D cy N0 h x y ou fo gr n S Wo s1 s2 s3 j hp hn) kwL_list g980 g981 hP hS (by omega) hl.1 rfl (by decide) (by omega) dL_law_2403 (fun v hh1 H locs hq hP hS => ?_)
  obtain ⟨rfl, fo1, j1, ha1⟩ := hq
  obtain ⟨fi, re, rc, rs, so, ot, cn, la, hy1⟩ := j1.yo
  refine lv_istore (lv' := [(5, .int ((xs_list (xF S) S Wo s1 s2 s3).1)), (4, .int (nI i)), (3, .ref ou), (2, .ref y), (1, .ref x), (0, .ref b)]) hx hb dL_law_2406 hl (by decide) rfl (fun ls hl => ?_)
  refine lv_aload_n hx hb dL_law_2408 rfl (lv_at hl 3 rfl) ?_
  refine lv_aload_n hx hb dL_law_2409 rfl (lv_at hl 5 rfl) ?_
  refine lv_iload hx hb dL_law_2410 (lv_at hl 1 rfl) ?_
  refine lv_iconst (v := nI 1) hx hb dL_law_2412 (by decide) ?_
  refine q_iaddN hx hb dL_law_2413 ?_
  refine va_sld hx hb hX hbl0 hbA hS (nI_in (by omega) (by omega)) dL_law_2414 ?_
  rw [← es1]
  refine lv_aload_n hx hb dL_law_2415 rfl (lv_at hl 5 rfl) ?_
  refine lv_iload hx hb dL_law_2416 (lv_at hl 1 rfl) ?_
  refine lv_iconst (v := nI 2) hx hb dL_law_2418 (by decide) ?_
  refine q_iaddN hx hb dL_law_2419 ?_
  refine va_sld hx hb hX hbl0 hbA hS (nI_in (by omega) (by omega)) dL_law_2420 ?_
  rw [← es2]
  refine lv_aload_n hx hb dL_law_2421 rfl (lv_at hl 5 rfl) ?_
  refine lv_iload hx hb dL_law_2422 (lv_at hl 1 rfl) ?_
  refine lv_iconst (v := nI 3) hx hb dL_law_2424 (by decide) ?_
  refine q_iaddN hx hb dL_law_2425 ?_
  refine va_sld hx hb hX hbl0 hbA hS (nI_in (by omega) (by omega)) dL_law_2426 ?_
  rw [← es3]
  refine q_callV (rest := []) C (wl_list l D cy N0 hh1 x y ou fo1 gr n S Wo s1 s2 s3 j1 hp hn) kX8_list g1449 g1450 rfl g1451 g4 hP hS hy1 (by first | decide | omega) hl.1 rfl (by decide) (by first | decide | omega) dL_law_2427 (fun q ce E h' H1 locs1 hE => hE.elim) (fun v hh2 H locs hq hP hS => ?_)
  obtain ⟨rfl, W2, j2, p2, hcd, hw2⟩ := hq
  have hb2 : W2.2.1 = ((xs_list (xF S) S Wo s1 s2 s3).2.2.2).2.1 := congrArg Prod.fst hw2
  obtain ⟨fi2, re2, rc2, rs2, so2, ot2, cn2, la2, hy2⟩ := j2.yo
  refine lv_istore (lv' := [(6, .int ((xs_list (xF S) S Wo s1 s2 s3).2.1)), (5, .int ((xs_list (xF S) S Wo s1 s2 s3).1)), (4, .int (nI i)), (3, .ref ou), (2, .ref y), (1, .ref x), (0, .ref b)]) hx hb dL_law_2430 hl (by decide) rfl (fun ls hl => ?_)
  refine lv_aload_n hx hb dL_law_2432 rfl (lv_at hl 4 rfl) ?_
  refine q_callV (rest := []) C (c_X8_thrown l D cy N0 hh2 y W2.1.1 W2.1.2.1 W2.1.2.2.1 W2.1.2.2.2.1 W2.1.2.2.2.2.1 fi2 re2 rc2 rs2 so2 ot2 cn2 la2 W2.1.2.2.2.2.2.1 W2.1.2.2.2.2.2.2.1 W2.1.2.2.2.2.2.2.2.1 W2.1.2.2.2.2.2.2.2.2.1 W2.1.2.2.2.2.2.2.2.2.2.1 W2.1.2.2.2.2.2.2.2.2.2.2.1 W2.1.2.2.2.2.2.2.2.2.2.2.2.1 (nI W2.2.1.1) (nI W2.2.2.1) W2.1.2.2.2.2.2.2.2.2.2.2.2.2 hy2) kX8_thrown g1238 g1239 rfl g1240 g4 hP hS hy2 (by first | decide | omega) hl.1 rfl (by decide) (by first | decide | omega) dL_law_2433 (fun q ce E h' H1 locs1 hE => hE.elim) (fun v hh3 H locs hq hP hS => ?_)
  obtain ⟨rfl, rfl⟩ := hq
  rw [hcd]
  refine lv_iload hx hb dL_law_2436 (lv_at hl 1 rfl) ?_
  refine lv_icmp_eq (tgt := 2443) hx hb dL_law_2438 (by decide) (fun _ => ?_) (fun c9 => absurd rfl c9)
  refine lv_iload hx hb dL_law_2443 (lv_at hl 1 rfl) ?_
  refine lv_if_ne (tgt := 2460) hx hb dL_law_2445 (by decide) (fun _ => ?_) (fun hk0 => ?_)
  · refine lv_goto (tgt := 2940) hx hb dL_law_2460 (by decide) ?_
    exact kend ls H locs _ _ _ fo1 _ W2 j2 p2 (by rw [hb2]; omega) (by rw [hb2]; omega) hP hS (lv_sub hl [2, 3, 4, 5, 6] rfl)
  · refine lv_aload_n hx hb dL_law_2448 rfl (lv_at hl 3 rfl) ?_
    refine lv_iconst (v := nI 0) hx hb dL_law_2449 (by decide) ?_
    refine q_laldN C hP j2.ouf (by omega) (by omega) dL_law_2450 ?_
    refine lv_iload hx hb dL_law_2451 (lv_at hl 0 rfl) ?_
    refine lv_i2l hx hb dL_law_2453 rfl ?_
    refine W.lcmp hx hb dL_law_2454 ?_
    refine lv_if_eq (tgt := 2460) hx hb dL_law_2455 (by decide) (fun _ => ?_) (fun c9 => absurd ((lg_cmp_eq _ _).mpr (ha1 hk0)) c9)
    refine lv_goto (tgt := 2940) hx hb dL_law_2460 (by decide) ?_
    exact kend ls H locs _ _ _ fo1 _ W2 j2 p2 (by rw [hb2]; omega) (by rw [hb2]; omega) hP hS (lv_sub hl [2, 3, 4, 5, 6] rfl)
theorem dL_law_2511 : decode cL_law 2511 = .ok (.aload_n 1, 1) := by decide +kernel
theorem dL_law_2512 : decode cL_law 2512 = .ok (.aload_n 0, 1) := by decide +kernel
theorem dL_law_2513 : decode cL_law 2513 = .ok (.iload 4, 2) := by decide +kernel
theorem dL_law_2515 : decode cL_law 2515 = .ok (.iconst 1, 1) := by decide +kernel
theorem dL_law_2516 : decode cL_law 2516 = .ok (.iadd, 1) := by decide +kernel
theorem dL_law_2517 : decode cL_law 2517 = .ok (.iaload, 1) := by decide +kernel
theorem dL_law_2518 : decode cL_law 2518 = .ok (.aload_n 0, 1) := by decide +kernel
theorem dL_law_2519 : decode cL_law 2519 = .ok (.iload 4, 2) := by decide +kernel
theorem dL_law_2521 : decode cL_law 2521 = .ok (.iconst 2, 1) := by decide +kernel
theorem dL_law_2522 : decode cL_law 2522 = .ok (.iadd, 1) := by decide +kernel
theorem dL_law_2523 : decode cL_law 2523 = .ok (.iaload, 1) := by decide +kernel
theorem dL_law_2524 : decode cL_law 2524 = .ok (.invokestatic 241, 3) := by decide +kernel
theorem dL_law_2527 : decode cL_law 2527 = .ok (.istore 5, 2) := by decide +kernel
theorem dL_law_2529 : decode cL_law 2529 = .ok (.aload_n 2, 1) := by decide +kernel
theorem dL_law_2530 : decode cL_law 2530 = .ok (.aload_n 0, 1) := by decide +kernel
theorem dL_law_2531 : decode cL_law 2531 = .ok (.iload 4, 2) := by decide +kernel
theorem dL_law_2533 : decode cL_law 2533 = .ok (.iconst 1, 1) := by decide +kernel
theorem dL_law_2534 : decode cL_law 2534 = .ok (.iadd, 1) := by decide +kernel
theorem dL_law_2535 : decode cL_law 2535 = .ok (.iaload, 1) := by decide +kernel
theorem dL_law_2536 : decode cL_law 2536 = .ok (.aload_n 0, 1) := by decide +kernel
theorem dL_law_2537 : decode cL_law 2537 = .ok (.iload 4, 2) := by decide +kernel
theorem dL_law_2539 : decode cL_law 2539 = .ok (.iconst 2, 1) := by decide +kernel
theorem dL_law_2540 : decode cL_law 2540 = .ok (.iadd, 1) := by decide +kernel
theorem dL_law_2541 : decode cL_law 2541 = .ok (.iaload, 1) := by decide +kernel
theorem dL_law_2542 : decode cL_law 2542 = .ok (.invokevirtual 243, 3) := by decide +kernel
theorem dL_law_2545 : decode cL_law 2545 = .ok (.aload_n 2, 1) := by decide +kernel
theorem dL_law_2546 : decode cL_law 2546 = .ok (.invokevirtual 147, 3) := by decide +kernel
theorem dL_law_2549 : decode cL_law 2549 = .ok (.iload 5, 2) := by decide +kernel
theorem dL_law_2551 : decode cL_law 2551 = .ok (.if_icmp .eq 5, 3) := by decide +kernel
theorem dL_law_2556 : decode cL_law 2556 = .ok (.goto 384, 3) := by decide +kernel
set_option maxRecDepth 100000 in
set_option maxHeartbeats 4000000 in
theorem lc_open {p : Program} {l : Launch} {e : Env} {mc ms : Nat} {s : State} {m : MethodId} {below : List Frame} {meth : Method} {c : Code} {H : Heap} {locs : List Loc} {cells slots : Nat} {Q : State → Prop} {rt0 : Option FieldType} {nm0 : String} {D : va_G} {cy : Nat → ClassId} {N0 : Nat} {tb : List ExceptionTableEntry} {h : qH} {ls : Array Slot} {b L : Nat} {xs : Nat → Int32} {x y ou : Nat} {fo : Nat → Int64} {gr : Int32} {n i C1 C2 : Nat} {S : Nat → qSlot} {Wo : qWo} (C : qX p l s m #[Value.ref b] meth c RL cL_law 8 rt0 nm0 D cy N0 tb) (hX : va_X b L xs s s.heap) (hbl0 : b < s.heap.size) (hbA : ¬ qA N0 b) (hP : qP D N0 h H) (hS : va_S (qA N0) s.heap H locs) (hi : i + 7 ≤ L) (hL : L ≤ 449) (hn : n < 64) (j : JZ cy h x y ou fo gr n S Wo S Wo) (hp : PI gr n S Wo) (hc1 : cells ≤ C1 + t1 n + Wo.2.1.1 + qP1 Wo.2.1) (hc2 : slots ≤ C2 + t2 n + 10 * Wo.2.1.1 + qP2 Wo.2.1) (hmc : C1 + 530000 ≤ mc) (hms : C2 + 5520000 ≤ ms) (hl : lv_has ls 8 [(4, .int (nI i)), (3, .ref ou), (2, .ref y), (1, .ref x), (0, .ref b)]) (kend : ∀ (ls : Array Slot) (H : Heap) (locs : List Loc) (c1 c2 : Nat) (h : qH) (fo : Nat → Int64) (S : Nat → qSlot) (Wo : qWo), JZ cy h x y ou fo gr (n + 1) S Wo S Wo → PI gr (n + 1) S Wo → c1 ≤ C1 + t1 (n + 1) + Wo.2.1.1 + qP1 Wo.2.1 → c2 ≤ C2 + t2 (n + 1) + 10 * Wo.2.1.1 + qP2 Wo.2.1 → qP D N0 h H → va_S (qA N0) s.heap H locs → lv_has ls 8 [(4, .int (nI i)), (3, .ref ou), (2, .ref y), (1, .ref x), (0, .ref b)] → W p l e (qR 2048 84000 mc ms) s m #[Value.ref b] below meth c H locs c1 c2 Q (F0 m 2940 ls [])) : W p l e (qR 2048 84000 mc ms) s m #[Value.ref b] below meth c H locs cells slots Q (F0 m 2511 ls []) := by
  have hx := C.1
  have hb := C.2.1
  have h1L := t1_le (n + 1) (by omega)
  have h2L := t2_le (n + 1) (by omega)
  have e1L : t1 (n + 1) = t1 n + (1201 + 212 * n) := rfl
  have e2L : t2 (n + 1) = t2 n + (13300 + n * rMs n 7) := rfl
  have hb0 := hp.bnd (by omega)
  refine lv_aload_n hx hb dL_law_2511 rfl (lv_at hl 3 rfl) ?_
  refine lv_aload_n hx hb dL_law_2512 rfl (lv_at hl 4 rfl) ?_
  refine lv_iload hx hb dL_law_2513 (lv_at hl 0 rfl) ?_
  refine lv_iconst (v := nI 1) hx hb dL_law_2515 (by decide) ?_
  refine q_iaddN hx hb dL_law_2516 ?_
  refine va_sld hx hb hX hbl0 hbA hS (nI_in (by omega) (by omega)) dL_law_2517 ?_
  refine lv_topi (fun s1 es1 => ?_)
  refine lv_aload_n hx hb dL_law_2518 rfl (lv_at hl 4 rfl) ?_
  refine lv_iload hx hb dL_law_2519 (lv_at hl 0 rfl) ?_
  refine lv_iconst (v := nI 2) hx hb dL_law_2521 (by decide) ?_
  refine q_iaddN hx hb dL_law_2522 ?_
  refine va_sld hx hb hX hbl0 hbA hS (nI_in (by omega) (by omega)) dL_law_2523 ?_
  refine lv_topi (fun s2 es2 => ?_)
  have hpK : PI gr (n + 1) ((xs_open S s1 s2).2) (Wo) := hp.opn
  have hbK := hpK.bnd (by omega)
  have hmo : MO Wo (Wo) := MO.rf
  have hqm := qP1_mo hmo hb0.2.2.2
  have hm1 := hmo.1
  refine q_callSW (rest := []) C (zl_open l D cy N0 h x y ou fo gr n S Wo s1 s2 j hp hn) kwL_open g994 g995 hP hS (by omega) hl.1 rfl (by decide) (by omega) dL_law_2524 (fun v hh1 H locs hq hP hS => ?_)
  obtain ⟨rfl, j1⟩ := hq
  obtain ⟨fi, re, rc, rs, so, ot, cn, la, hy1⟩ := j1.yo
  refine lv_istore (lv' := [(5, .int ((xs_open S s1 s2).1)), (4, .int (nI i)), (3, .ref ou), (2, .ref y), (1, .ref x), (0, .ref b)]) hx hb dL_law_2527 hl (by decide) rfl (fun ls hl => ?_)
  refine lv_aload_n hx hb dL_law_2529 rfl (lv_at hl 3 rfl) ?_
  refine lv_aload_n hx hb dL_law_2530 rfl (lv_at hl 5 rfl) ?_
  refine lv_iload hx hb dL_law_2531 (lv_at hl 1 rfl) ?_
  refine lv_iconst (v := nI 1) hx hb dL_law_2533 (by decide) ?_
  refine q_iaddN hx hb dL_law_2534 ?_
  refine va_sld hx hb hX hbl0 hbA hS (nI_in (by omega) (by omega)) dL_law_2535 ?_
  rw [← es1]
  refine lv_aload_n hx hb dL_law_2536 rfl (lv_at hl 5 rfl) ?_
  refine lv_iload hx hb dL_law_2537 (lv_at hl 1 rfl) ?_
  refine lv_iconst (v := nI 2) hx hb dL_law_2539 (by decide) ?_
  refine q_iaddN hx hb dL_law_2540 ?_
  refine va_sld hx hb hX hbl0 hbA hS (nI_in (by omega) (by omega)) dL_law_2541 ?_
  rw [← es2]
  refine q_callV (rest := []) C (wl_open l D cy N0 hh1 x y ou fo gr n S Wo s1 s2 j1 hp hn) kX8_open g1457 g1458 rfl g1459 g4 hP hS hy1 (by first | decide | omega) hl.1 rfl (by decide) (by first | decide | omega) dL_law_2542 (fun q ce E h' H1 locs1 hE => hE.elim) (fun v hh2 H locs hq hP hS => ?_)
  obtain ⟨rfl, W2, j2, p2, hcd, hw2⟩ := hq
  have hb2 : W2.2.1 = (Wo).2.1 := congrArg Prod.fst hw2
  obtain ⟨fi2, re2, rc2, rs2, so2, ot2, cn2, la2, hy2⟩ := j2.yo
  refine lv_aload_n hx hb dL_law_2545 rfl (lv_at hl 3 rfl) ?_
  refine q_callV (rest := []) C (c_X8_thrown l D cy N0 hh2 y W2.1.1 W2.1.2.1 W2.1.2.2.1 W2.1.2.2.2.1 W2.1.2.2.2.2.1 fi2 re2 rc2 rs2 so2 ot2 cn2 la2 W2.1.2.2.2.2.2.1 W2.1.2.2.2.2.2.2.1 W2.1.2.2.2.2.2.2.2.1 W2.1.2.2.2.2.2.2.2.2.1 W2.1.2.2.2.2.2.2.2.2.2.1 W2.1.2.2.2.2.2.2.2.2.2.2.1 W2.1.2.2.2.2.2.2.2.2.2.2.2.1 (nI W2.2.1.1) (nI W2.2.2.1) W2.1.2.2.2.2.2.2.2.2.2.2.2.2 hy2) kX8_thrown g1238 g1239 rfl g1240 g4 hP hS hy2 (by first | decide | omega) hl.1 rfl (by decide) (by first | decide | omega) dL_law_2546 (fun q ce E h' H1 locs1 hE => hE.elim) (fun v hh3 H locs hq hP hS => ?_)
  obtain ⟨rfl, rfl⟩ := hq
  rw [hcd]
  refine lv_iload hx hb dL_law_2549 (lv_at hl 0 rfl) ?_
  refine lv_icmp_eq (tgt := 2556) hx hb dL_law_2551 (by decide) (fun _ => ?_) (fun c9 => absurd rfl c9)
  refine lv_goto (tgt := 2940) hx hb dL_law_2556 (by decide) ?_
  exact kend ls H locs _ _ _ fo _ W2 j2 p2 (by rw [hb2]; omega) (by rw [hb2]; omega) hP hS (lv_sub hl [1, 2, 3, 4, 5] rfl)
theorem dL_law_2559 : decode cL_law 2559 = .ok (.aload_n 1, 1) := by decide +kernel
theorem dL_law_2560 : decode cL_law 2560 = .ok (.aload_n 0, 1) := by decide +kernel
theorem dL_law_2561 : decode cL_law 2561 = .ok (.iload 4, 2) := by decide +kernel
theorem dL_law_2563 : decode cL_law 2563 = .ok (.iconst 1, 1) := by decide +kernel
theorem dL_law_2564 : decode cL_law 2564 = .ok (.iadd, 1) := by decide +kernel
theorem dL_law_2565 : decode cL_law 2565 = .ok (.iaload, 1) := by decide +kernel
theorem dL_law_2566 : decode cL_law 2566 = .ok (.aload_n 0, 1) := by decide +kernel
theorem dL_law_2567 : decode cL_law 2567 = .ok (.iload 4, 2) := by decide +kernel
theorem dL_law_2569 : decode cL_law 2569 = .ok (.iconst 2, 1) := by decide +kernel
theorem dL_law_2570 : decode cL_law 2570 = .ok (.iadd, 1) := by decide +kernel
theorem dL_law_2571 : decode cL_law 2571 = .ok (.iaload, 1) := by decide +kernel
theorem dL_law_2572 : decode cL_law 2572 = .ok (.aload_n 0, 1) := by decide +kernel
theorem dL_law_2573 : decode cL_law 2573 = .ok (.iload 4, 2) := by decide +kernel
theorem dL_law_2575 : decode cL_law 2575 = .ok (.iconst 3, 1) := by decide +kernel
theorem dL_law_2576 : decode cL_law 2576 = .ok (.iadd, 1) := by decide +kernel
theorem dL_law_2577 : decode cL_law 2577 = .ok (.iaload, 1) := by decide +kernel
theorem dL_law_2578 : decode cL_law 2578 = .ok (.i2l, 1) := by decide +kernel
theorem dL_law_2579 : decode cL_law 2579 = .ok (.bipush 32, 2) := by decide +kernel
theorem dL_law_2581 : decode cL_law 2581 = .ok (.lshl, 1) := by decide +kernel
theorem dL_law_2582 : decode cL_law 2582 = .ok (.aload_n 0, 1) := by decide +kernel
theorem dL_law_2583 : decode cL_law 2583 = .ok (.iload 4, 2) := by decide +kernel
theorem dL_law_2585 : decode cL_law 2585 = .ok (.iconst 4, 1) := by decide +kernel
theorem dL_law_2586 : decode cL_law 2586 = .ok (.iadd, 1) := by decide +kernel
theorem dL_law_2587 : decode cL_law 2587 = .ok (.iaload, 1) := by decide +kernel
theorem dL_law_2588 : decode cL_law 2588 = .ok (.i2l, 1) := by decide +kernel
theorem dL_law_2589 : decode cL_law 2589 = .ok (.ldc2_w 161, 3) := by decide +kernel
theorem dL_law_2592 : decode cL_law 2592 = .ok (.land, 1) := by decide +kernel
theorem dL_law_2593 : decode cL_law 2593 = .ok (.lor, 1) := by decide +kernel
theorem dL_law_2594 : decode cL_law 2594 = .ok (.aload_n 0, 1) := by decide +kernel
theorem dL_law_2595 : decode cL_law 2595 = .ok (.iload 4, 2) := by decide +kernel
theorem dL_law_2597 : decode cL_law 2597 = .ok (.iconst 5, 1) := by decide +kernel
theorem dL_law_2598 : decode cL_law 2598 = .ok (.iadd, 1) := by decide +kernel
theorem dL_law_2599 : decode cL_law 2599 = .ok (.iaload, 1) := by decide +kernel
theorem dL_law_2600 : decode cL_law 2600 = .ok (.i2l, 1) := by decide +kernel
theorem dL_law_2601 : decode cL_law 2601 = .ok (.bipush 32, 2) := by decide +kernel
theorem dL_law_2603 : decode cL_law 2603 = .ok (.lshl, 1) := by decide +kernel
theorem dL_law_2604 : decode cL_law 2604 = .ok (.aload_n 0, 1) := by decide +kernel
theorem dL_law_2605 : decode cL_law 2605 = .ok (.iload 4, 2) := by decide +kernel
theorem dL_law_2607 : decode cL_law 2607 = .ok (.bipush 6, 2) := by decide +kernel
theorem dL_law_2609 : decode cL_law 2609 = .ok (.iadd, 1) := by decide +kernel
theorem dL_law_2610 : decode cL_law 2610 = .ok (.iaload, 1) := by decide +kernel
theorem dL_law_2611 : decode cL_law 2611 = .ok (.i2l, 1) := by decide +kernel
theorem dL_law_2612 : decode cL_law 2612 = .ok (.ldc2_w 161, 3) := by decide +kernel
theorem dL_law_2615 : decode cL_law 2615 = .ok (.land, 1) := by decide +kernel
theorem dL_law_2616 : decode cL_law 2616 = .ok (.lor, 1) := by decide +kernel
theorem dL_law_2617 : decode cL_law 2617 = .ok (.aload_n 3, 1) := by decide +kernel
theorem dL_law_2618 : decode cL_law 2618 = .ok (.invokestatic 244, 3) := by decide +kernel
theorem dL_law_2621 : decode cL_law 2621 = .ok (.istore 5, 2) := by decide +kernel
theorem dL_law_2623 : decode cL_law 2623 = .ok (.aload_n 2, 1) := by decide +kernel
theorem dL_law_2624 : decode cL_law 2624 = .ok (.aload_n 0, 1) := by decide +kernel
theorem dL_law_2625 : decode cL_law 2625 = .ok (.iload 4, 2) := by decide +kernel
theorem dL_law_2627 : decode cL_law 2627 = .ok (.iconst 1, 1) := by decide +kernel
theorem dL_law_2628 : decode cL_law 2628 = .ok (.iadd, 1) := by decide +kernel
theorem dL_law_2629 : decode cL_law 2629 = .ok (.iaload, 1) := by decide +kernel
theorem dL_law_2630 : decode cL_law 2630 = .ok (.aload_n 0, 1) := by decide +kernel
theorem dL_law_2631 : decode cL_law 2631 = .ok (.iload 4, 2) := by decide +kernel
theorem dL_law_2633 : decode cL_law 2633 = .ok (.iconst 2, 1) := by decide +kernel
theorem dL_law_2634 : decode cL_law 2634 = .ok (.iadd, 1) := by decide +kernel
theorem dL_law_2635 : decode cL_law 2635 = .ok (.iaload, 1) := by decide +kernel
theorem dL_law_2636 : decode cL_law 2636 = .ok (.aload_n 0, 1) := by decide +kernel
theorem dL_law_2637 : decode cL_law 2637 = .ok (.iload 4, 2) := by decide +kernel
theorem dL_law_2639 : decode cL_law 2639 = .ok (.iconst 3, 1) := by decide +kernel
theorem dL_law_2640 : decode cL_law 2640 = .ok (.iadd, 1) := by decide +kernel
theorem dL_law_2641 : decode cL_law 2641 = .ok (.iaload, 1) := by decide +kernel
theorem dL_law_2642 : decode cL_law 2642 = .ok (.i2l, 1) := by decide +kernel
theorem dL_law_2643 : decode cL_law 2643 = .ok (.bipush 32, 2) := by decide +kernel
theorem dL_law_2645 : decode cL_law 2645 = .ok (.lshl, 1) := by decide +kernel
theorem dL_law_2646 : decode cL_law 2646 = .ok (.aload_n 0, 1) := by decide +kernel
theorem dL_law_2647 : decode cL_law 2647 = .ok (.iload 4, 2) := by decide +kernel
theorem dL_law_2649 : decode cL_law 2649 = .ok (.iconst 4, 1) := by decide +kernel
theorem dL_law_2650 : decode cL_law 2650 = .ok (.iadd, 1) := by decide +kernel
theorem dL_law_2651 : decode cL_law 2651 = .ok (.iaload, 1) := by decide +kernel
theorem dL_law_2652 : decode cL_law 2652 = .ok (.i2l, 1) := by decide +kernel
theorem dL_law_2653 : decode cL_law 2653 = .ok (.ldc2_w 161, 3) := by decide +kernel
theorem dL_law_2656 : decode cL_law 2656 = .ok (.land, 1) := by decide +kernel
theorem dL_law_2657 : decode cL_law 2657 = .ok (.lor, 1) := by decide +kernel
theorem dL_law_2658 : decode cL_law 2658 = .ok (.aload_n 0, 1) := by decide +kernel
theorem dL_law_2659 : decode cL_law 2659 = .ok (.iload 4, 2) := by decide +kernel
theorem dL_law_2661 : decode cL_law 2661 = .ok (.iconst 5, 1) := by decide +kernel
theorem dL_law_2662 : decode cL_law 2662 = .ok (.iadd, 1) := by decide +kernel
theorem dL_law_2663 : decode cL_law 2663 = .ok (.iaload, 1) := by decide +kernel
theorem dL_law_2664 : decode cL_law 2664 = .ok (.i2l, 1) := by decide +kernel
theorem dL_law_2665 : decode cL_law 2665 = .ok (.bipush 32, 2) := by decide +kernel
theorem dL_law_2667 : decode cL_law 2667 = .ok (.lshl, 1) := by decide +kernel
theorem dL_law_2668 : decode cL_law 2668 = .ok (.aload_n 0, 1) := by decide +kernel
theorem dL_law_2669 : decode cL_law 2669 = .ok (.iload 4, 2) := by decide +kernel
theorem dL_law_2671 : decode cL_law 2671 = .ok (.bipush 6, 2) := by decide +kernel
theorem dL_law_2673 : decode cL_law 2673 = .ok (.iadd, 1) := by decide +kernel
theorem dL_law_2674 : decode cL_law 2674 = .ok (.iaload, 1) := by decide +kernel
theorem dL_law_2675 : decode cL_law 2675 = .ok (.i2l, 1) := by decide +kernel
theorem dL_law_2676 : decode cL_law 2676 = .ok (.ldc2_w 161, 3) := by decide +kernel
theorem dL_law_2679 : decode cL_law 2679 = .ok (.land, 1) := by decide +kernel
theorem dL_law_2680 : decode cL_law 2680 = .ok (.lor, 1) := by decide +kernel
theorem dL_law_2681 : decode cL_law 2681 = .ok (.invokevirtual 246, 3) := by decide +kernel
theorem dL_law_2684 : decode cL_law 2684 = .ok (.istore 6, 2) := by decide +kernel
theorem dL_law_2686 : decode cL_law 2686 = .ok (.aload_n 2, 1) := by decide +kernel
theorem dL_law_2687 : decode cL_law 2687 = .ok (.invokevirtual 147, 3) := by decide +kernel
theorem dL_law_2690 : decode cL_law 2690 = .ok (.iload 5, 2) := by decide +kernel
theorem dL_law_2692 : decode cL_law 2692 = .ok (.if_icmp .eq 5, 3) := by decide +kernel
theorem dL_law_2697 : decode cL_law 2697 = .ok (.iload 5, 2) := by decide +kernel
theorem dL_law_2699 : decode cL_law 2699 = .ok (.ifCond .ne 15, 3) := by decide +kernel
theorem dL_law_2702 : decode cL_law 2702 = .ok (.aload_n 3, 1) := by decide +kernel
theorem dL_law_2703 : decode cL_law 2703 = .ok (.iconst 0, 1) := by decide +kernel
theorem dL_law_2704 : decode cL_law 2704 = .ok (.laload, 1) := by decide +kernel
theorem dL_law_2705 : decode cL_law 2705 = .ok (.iload 6, 2) := by decide +kernel
theorem dL_law_2707 : decode cL_law 2707 = .ok (.i2l, 1) := by decide +kernel
theorem dL_law_2708 : decode cL_law 2708 = .ok (.lcmp, 1) := by decide +kernel
theorem dL_law_2709 : decode cL_law 2709 = .ok (.ifCond .eq 5, 3) := by decide +kernel
theorem dL_law_2714 : decode cL_law 2714 = .ok (.goto 226, 3) := by decide +kernel
set_option maxRecDepth 100000 in
set_option maxHeartbeats 4000000 in
theorem lc_build {p : Program} {l : Launch} {e : Env} {mc ms : Nat} {s : State} {m : MethodId} {below : List Frame} {meth : Method} {c : Code} {H : Heap} {locs : List Loc} {cells slots : Nat} {Q : State → Prop} {rt0 : Option FieldType} {nm0 : String} {D : va_G} {cy : Nat → ClassId} {N0 : Nat} {tb : List ExceptionTableEntry} {h : qH} {ls : Array Slot} {b L : Nat} {xs : Nat → Int32} {x y ou : Nat} {fo : Nat → Int64} {gr : Int32} {n i C1 C2 : Nat} {S : Nat → qSlot} {Wo : qWo} (C : qX p l s m #[Value.ref b] meth c RL cL_law 8 rt0 nm0 D cy N0 tb) (hX : va_X b L xs s s.heap) (hbl0 : b < s.heap.size) (hbA : ¬ qA N0 b) (hP : qP D N0 h H) (hS : va_S (qA N0) s.heap H locs) (hi : i + 7 ≤ L) (hL : L ≤ 449) (hn : n < 64) (j : JZ cy h x y ou fo gr n S Wo S Wo) (hp : PI gr n S Wo) (hc1 : cells ≤ C1 + t1 n + Wo.2.1.1 + qP1 Wo.2.1) (hc2 : slots ≤ C2 + t2 n + 10 * Wo.2.1.1 + qP2 Wo.2.1) (hmc : C1 + 530000 ≤ mc) (hms : C2 + 5520000 ≤ ms) (hl : lv_has ls 8 [(4, .int (nI i)), (3, .ref ou), (2, .ref y), (1, .ref x), (0, .ref b)]) (kend : ∀ (ls : Array Slot) (H : Heap) (locs : List Loc) (c1 c2 : Nat) (h : qH) (fo : Nat → Int64) (S : Nat → qSlot) (Wo : qWo), JZ cy h x y ou fo gr (n + 1) S Wo S Wo → PI gr (n + 1) S Wo → c1 ≤ C1 + t1 (n + 1) + Wo.2.1.1 + qP1 Wo.2.1 → c2 ≤ C2 + t2 (n + 1) + 10 * Wo.2.1.1 + qP2 Wo.2.1 → qP D N0 h H → va_S (qA N0) s.heap H locs → lv_has ls 8 [(4, .int (nI i)), (3, .ref ou), (2, .ref y), (1, .ref x), (0, .ref b)] → W p l e (qR 2048 84000 mc ms) s m #[Value.ref b] below meth c H locs c1 c2 Q (F0 m 2940 ls [])) : W p l e (qR 2048 84000 mc ms) s m #[Value.ref b] below meth c H locs cells slots Q (F0 m 2559 ls []) := by
  have hx := C.1
  have hb := C.2.1
  have h1L := t1_le (n + 1) (by omega)
  have h2L := t2_le (n + 1) (by omega)
  have e1L : t1 (n + 1) = t1 n + (1201 + 212 * n) := rfl
  have e2L : t2 (n + 1) = t2 n + (13300 + n * rMs n 7) := rfl
  have hb0 := hp.bnd (by omega)
  refine lv_aload_n hx hb dL_law_2559 rfl (lv_at hl 3 rfl) ?_
  refine lv_aload_n hx hb dL_law_2560 rfl (lv_at hl 4 rfl) ?_
  refine lv_iload hx hb dL_law_2561 (lv_at hl 0 rfl) ?_
  refine lv_iconst (v := nI 1) hx hb dL_law_2563 (by decide) ?_
  refine q_iaddN hx hb dL_law_2564 ?_
  refine va_sld hx hb hX hbl0 hbA hS (nI_in (by omega) (by omega)) dL_law_2565 ?_
  refine lv_topi (fun s1 es1 => ?_)
  refine lv_aload_n hx hb dL_law_2566 rfl (lv_at hl 4 rfl) ?_
  refine lv_iload hx hb dL_law_2567 (lv_at hl 0 rfl) ?_
  refine lv_iconst (v := nI 2) hx hb dL_law_2569 (by decide) ?_
  refine q_iaddN hx hb dL_law_2570 ?_
  refine va_sld hx hb hX hbl0 hbA hS (nI_in (by omega) (by omega)) dL_law_2571 ?_
  refine lv_topi (fun s2 es2 => ?_)
  refine lv_aload_n hx hb dL_law_2572 rfl (lv_at hl 4 rfl) ?_
  refine lv_iload hx hb dL_law_2573 (lv_at hl 0 rfl) ?_
  refine lv_iconst (v := nI 3) hx hb dL_law_2575 (by decide) ?_
  refine q_iaddN hx hb dL_law_2576 ?_
  refine va_sld hx hb hX hbl0 hbA hS (nI_in (by omega) (by omega)) dL_law_2577 ?_
  refine lv_topi (fun s3 es3 => ?_)
  refine lv_i2l hx hb dL_law_2578 rfl ?_
  refine lv_bipush (v := nI 32) hx hb dL_law_2579 (by decide) ?_
  refine lv_lshl hx hb dL_law_2581 rfl ?_
  refine lv_aload_n hx hb dL_law_2582 rfl (lv_at hl 4 rfl) ?_
  refine lv_iload hx hb dL_law_2583 (lv_at hl 0 rfl) ?_
  refine lv_iconst (v := nI 4) hx hb dL_law_2585 (by decide) ?_
  refine q_iaddN hx hb dL_law_2586 ?_
  refine va_sld hx hb hX hbl0 hbA hS (nI_in (by omega) (by omega)) dL_law_2587 ?_
  refine lv_topi (fun s4 es4 => ?_)
  refine lv_i2l hx hb dL_law_2588 rfl ?_
  refine lv_ldc2 hx hb C.2.2.2.2.1 (C.2.2.2.2.2.1 _ g1484) dL_law_2589 ?_
  refine lv_land hx hb dL_law_2592 ?_
  refine lv_lor hx hb dL_law_2593 ?_
  refine lv_topl (fun q3 eq3 => ?_)
  refine lv_aload_n hx hb dL_law_2594 rfl (lv_at hl 4 rfl) ?_
  refine lv_iload hx hb dL_law_2595 (lv_at hl 0 rfl) ?_
  refine lv_iconst (v := nI 5) hx hb dL_law_2597 (by decide) ?_
  refine q_iaddN hx hb dL_law_2598 ?_
  refine va_sld hx hb hX hbl0 hbA hS (nI_in (by omega) (by omega)) dL_law_2599 ?_
  refine lv_topi (fun s5 es5 => ?_)
  refine lv_i2l hx hb dL_law_2600 rfl ?_
  refine lv_bipush (v := nI 32) hx hb dL_law_2601 (by decide) ?_
  refine lv_lshl hx hb dL_law_2603 rfl ?_
  refine lv_aload_n hx hb dL_law_2604 rfl (lv_at hl 4 rfl) ?_
  refine lv_iload hx hb dL_law_2605 (lv_at hl 0 rfl) ?_
  refine lv_bipush (v := nI 6) hx hb dL_law_2607 (by decide) ?_
  refine q_iaddN hx hb dL_law_2609 ?_
  refine va_sld hx hb hX hbl0 hbA hS (nI_in (by omega) (by omega)) dL_law_2610 ?_
  refine lv_topi (fun s6 es6 => ?_)
  refine lv_i2l hx hb dL_law_2611 rfl ?_
  refine lv_ldc2 hx hb C.2.2.2.2.1 (C.2.2.2.2.2.1 _ g1484) dL_law_2612 ?_
  refine lv_land hx hb dL_law_2615 ?_
  refine lv_lor hx hb dL_law_2616 ?_
  refine lv_topl (fun q5 eq5 => ?_)
  refine lv_aload_n hx hb dL_law_2617 rfl (lv_at hl 1 rfl) ?_
  have hpK : PI gr (n + 1) ((xs_build gr S s1 s2 q3 q5).2.1) (Wo) := hp.build
  have hbK := hpK.bnd (by omega)
  have hmo : MO Wo (Wo) := MO.rf
  have hqm := qP1_mo hmo hb0.2.2.2
  have hm1 := hmo.1
  refine q_callSW (rest := []) C (zl_build l D cy N0 h x y ou fo gr n S Wo s1 s2 q3 q5 j hp hn) kwL_build g1007 g1008 hP hS (by omega) hl.1 rfl (by decide) (by omega) dL_law_2618 (fun v hh1 H locs hq hP hS => ?_)
  obtain ⟨rfl, fo1, j1, ha1⟩ := hq
  obtain ⟨fi, re, rc, rs, so, ot, cn, la, hy1⟩ := j1.yo
  refine lv_istore (lv' := [(5, .int ((xs_build gr S s1 s2 q3 q5).1)), (4, .int (nI i)), (3, .ref ou), (2, .ref y), (1, .ref x), (0, .ref b)]) hx hb dL_law_2621 hl (by decide) rfl (fun ls hl => ?_)
  refine lv_aload_n hx hb dL_law_2623 rfl (lv_at hl 3 rfl) ?_
  refine lv_aload_n hx hb dL_law_2624 rfl (lv_at hl 5 rfl) ?_
  refine lv_iload hx hb dL_law_2625 (lv_at hl 1 rfl) ?_
  refine lv_iconst (v := nI 1) hx hb dL_law_2627 (by decide) ?_
  refine q_iaddN hx hb dL_law_2628 ?_
  refine va_sld hx hb hX hbl0 hbA hS (nI_in (by omega) (by omega)) dL_law_2629 ?_
  rw [← es1]
  refine lv_aload_n hx hb dL_law_2630 rfl (lv_at hl 5 rfl) ?_
  refine lv_iload hx hb dL_law_2631 (lv_at hl 1 rfl) ?_
  refine lv_iconst (v := nI 2) hx hb dL_law_2633 (by decide) ?_
  refine q_iaddN hx hb dL_law_2634 ?_
  refine va_sld hx hb hX hbl0 hbA hS (nI_in (by omega) (by omega)) dL_law_2635 ?_
  rw [← es2]
  refine lv_aload_n hx hb dL_law_2636 rfl (lv_at hl 5 rfl) ?_
  refine lv_iload hx hb dL_law_2637 (lv_at hl 1 rfl) ?_
  refine lv_iconst (v := nI 3) hx hb dL_law_2639 (by decide) ?_
  refine q_iaddN hx hb dL_law_2640 ?_
  refine va_sld hx hb hX hbl0 hbA hS (nI_in (by omega) (by omega)) dL_law_2641 ?_
  rw [← es3]
  refine lv_i2l hx hb dL_law_2642 rfl ?_
  refine lv_bipush (v := nI 32) hx hb dL_law_2643 (by decide) ?_
  refine lv_lshl hx hb dL_law_2645 rfl ?_
  refine lv_aload_n hx hb dL_law_2646 rfl (lv_at hl 5 rfl) ?_
  refine lv_iload hx hb dL_law_2647 (lv_at hl 1 rfl) ?_
  refine lv_iconst (v := nI 4) hx hb dL_law_2649 (by decide) ?_
  refine q_iaddN hx hb dL_law_2650 ?_
  refine va_sld hx hb hX hbl0 hbA hS (nI_in (by omega) (by omega)) dL_law_2651 ?_
  rw [← es4]
  refine lv_i2l hx hb dL_law_2652 rfl ?_
  refine lv_ldc2 hx hb C.2.2.2.2.1 (C.2.2.2.2.2.1 _ g1484) dL_law_2653 ?_
  refine lv_land hx hb dL_law_2656 ?_
  refine lv_lor hx hb dL_law_2657 ?_
  rw [← eq3]
  refine lv_aload_n hx hb dL_law_2658 rfl (lv_at hl 5 rfl) ?_
  refine lv_iload hx hb dL_law_2659 (lv_at hl 1 rfl) ?_
  refine lv_iconst (v := nI 5) hx hb dL_law_2661 (by decide) ?_
  refine q_iaddN hx hb dL_law_2662 ?_
  refine va_sld hx hb hX hbl0 hbA hS (nI_in (by omega) (by omega)) dL_law_2663 ?_
  rw [← es5]
  refine lv_i2l hx hb dL_law_2664 rfl ?_
  refine lv_bipush (v := nI 32) hx hb dL_law_2665 (by decide) ?_
  refine lv_lshl hx hb dL_law_2667 rfl ?_
  refine lv_aload_n hx hb dL_law_2668 rfl (lv_at hl 5 rfl) ?_
  refine lv_iload hx hb dL_law_2669 (lv_at hl 1 rfl) ?_
  refine lv_bipush (v := nI 6) hx hb dL_law_2671 (by decide) ?_
  refine q_iaddN hx hb dL_law_2673 ?_
  refine va_sld hx hb hX hbl0 hbA hS (nI_in (by omega) (by omega)) dL_law_2674 ?_
  rw [← es6]
  refine lv_i2l hx hb dL_law_2675 rfl ?_
  refine lv_ldc2 hx hb C.2.2.2.2.1 (C.2.2.2.2.2.1 _ g1484) dL_law_2676 ?_
  refine lv_land hx hb dL_law_2679 ?_
  refine lv_lor hx hb dL_law_2680 ?_
  rw [← eq5]
  refine q_callV (rest := []) C (wl_build l D cy N0 hh1 x y ou fo1 gr n S Wo s1 s2 q3 q5 j1 hp hn) kX8_build g1464 g1465 rfl g1466 g4 hP hS hy1 (by first | decide | omega) hl.1 rfl (by decide) (by first | decide | omega) dL_law_2681 (fun q ce E h' H1 locs1 hE => hE.elim) (fun v hh2 H locs hq hP hS => ?_)
  obtain ⟨rfl, W2, j2, p2, hcd, hw2⟩ := hq
  have hb2 : W2.2.1 = (Wo).2.1 := congrArg Prod.fst hw2
  obtain ⟨fi2, re2, rc2, rs2, so2, ot2, cn2, la2, hy2⟩ := j2.yo
  refine lv_istore (lv' := [(6, .int ((xs_build gr S s1 s2 q3 q5).2.2)), (5, .int ((xs_build gr S s1 s2 q3 q5).1)), (4, .int (nI i)), (3, .ref ou), (2, .ref y), (1, .ref x), (0, .ref b)]) hx hb dL_law_2684 hl (by decide) rfl (fun ls hl => ?_)
  refine lv_aload_n hx hb dL_law_2686 rfl (lv_at hl 4 rfl) ?_
  refine q_callV (rest := []) C (c_X8_thrown l D cy N0 hh2 y W2.1.1 W2.1.2.1 W2.1.2.2.1 W2.1.2.2.2.1 W2.1.2.2.2.2.1 fi2 re2 rc2 rs2 so2 ot2 cn2 la2 W2.1.2.2.2.2.2.1 W2.1.2.2.2.2.2.2.1 W2.1.2.2.2.2.2.2.2.1 W2.1.2.2.2.2.2.2.2.2.1 W2.1.2.2.2.2.2.2.2.2.2.1 W2.1.2.2.2.2.2.2.2.2.2.2.1 W2.1.2.2.2.2.2.2.2.2.2.2.2.1 (nI W2.2.1.1) (nI W2.2.2.1) W2.1.2.2.2.2.2.2.2.2.2.2.2.2 hy2) kX8_thrown g1238 g1239 rfl g1240 g4 hP hS hy2 (by first | decide | omega) hl.1 rfl (by decide) (by first | decide | omega) dL_law_2687 (fun q ce E h' H1 locs1 hE => hE.elim) (fun v hh3 H locs hq hP hS => ?_)
  obtain ⟨rfl, rfl⟩ := hq
  rw [hcd]
  refine lv_iload hx hb dL_law_2690 (lv_at hl 1 rfl) ?_
  refine lv_icmp_eq (tgt := 2697) hx hb dL_law_2692 (by decide) (fun _ => ?_) (fun c9 => absurd rfl c9)
  refine lv_iload hx hb dL_law_2697 (lv_at hl 1 rfl) ?_
  refine lv_if_ne (tgt := 2714) hx hb dL_law_2699 (by decide) (fun _ => ?_) (fun hk0 => ?_)
  · refine lv_goto (tgt := 2940) hx hb dL_law_2714 (by decide) ?_
    exact kend ls H locs _ _ _ fo1 _ W2 j2 p2 (by rw [hb2]; omega) (by rw [hb2]; omega) hP hS (lv_sub hl [2, 3, 4, 5, 6] rfl)
  · refine lv_aload_n hx hb dL_law_2702 rfl (lv_at hl 3 rfl) ?_
    refine lv_iconst (v := nI 0) hx hb dL_law_2703 (by decide) ?_
    refine q_laldN C hP j2.ouf (by omega) (by omega) dL_law_2704 ?_
    refine lv_iload hx hb dL_law_2705 (lv_at hl 0 rfl) ?_
    refine lv_i2l hx hb dL_law_2707 rfl ?_
    refine W.lcmp hx hb dL_law_2708 ?_
    refine lv_if_eq (tgt := 2714) hx hb dL_law_2709 (by decide) (fun _ => ?_) (fun c9 => absurd ((lg_cmp_eq _ _).mpr (ha1 hk0)) c9)
    refine lv_goto (tgt := 2940) hx hb dL_law_2714 (by decide) ?_
    exact kend ls H locs _ _ _ fo1 _ W2 j2 p2 (by rw [hb2]; omega) (by rw [hb2]; omega) hP hS (lv_sub hl [2, 3, 4, 5, 6] rfl)
theorem dL_law_2717 : decode cL_law 2717 = .ok (.aload_n 1, 1) := by decide +kernel
theorem dL_law_2718 : decode cL_law 2718 = .ok (.aload_n 0, 1) := by decide +kernel
theorem dL_law_2719 : decode cL_law 2719 = .ok (.iload 4, 2) := by decide +kernel
theorem dL_law_2721 : decode cL_law 2721 = .ok (.iconst 1, 1) := by decide +kernel
theorem dL_law_2722 : decode cL_law 2722 = .ok (.iadd, 1) := by decide +kernel
theorem dL_law_2723 : decode cL_law 2723 = .ok (.iaload, 1) := by decide +kernel
theorem dL_law_2724 : decode cL_law 2724 = .ok (.aload_n 0, 1) := by decide +kernel
theorem dL_law_2725 : decode cL_law 2725 = .ok (.iload 4, 2) := by decide +kernel
theorem dL_law_2727 : decode cL_law 2727 = .ok (.iconst 2, 1) := by decide +kernel
theorem dL_law_2728 : decode cL_law 2728 = .ok (.iadd, 1) := by decide +kernel
theorem dL_law_2729 : decode cL_law 2729 = .ok (.iaload, 1) := by decide +kernel
theorem dL_law_2730 : decode cL_law 2730 = .ok (.i2l, 1) := by decide +kernel
theorem dL_law_2731 : decode cL_law 2731 = .ok (.bipush 32, 2) := by decide +kernel
theorem dL_law_2733 : decode cL_law 2733 = .ok (.lshl, 1) := by decide +kernel
theorem dL_law_2734 : decode cL_law 2734 = .ok (.aload_n 0, 1) := by decide +kernel
theorem dL_law_2735 : decode cL_law 2735 = .ok (.iload 4, 2) := by decide +kernel
theorem dL_law_2737 : decode cL_law 2737 = .ok (.iconst 3, 1) := by decide +kernel
theorem dL_law_2738 : decode cL_law 2738 = .ok (.iadd, 1) := by decide +kernel
theorem dL_law_2739 : decode cL_law 2739 = .ok (.iaload, 1) := by decide +kernel
theorem dL_law_2740 : decode cL_law 2740 = .ok (.i2l, 1) := by decide +kernel
theorem dL_law_2741 : decode cL_law 2741 = .ok (.ldc2_w 161, 3) := by decide +kernel
theorem dL_law_2744 : decode cL_law 2744 = .ok (.land, 1) := by decide +kernel
theorem dL_law_2745 : decode cL_law 2745 = .ok (.lor, 1) := by decide +kernel
theorem dL_law_2746 : decode cL_law 2746 = .ok (.aload_n 3, 1) := by decide +kernel
theorem dL_law_2747 : decode cL_law 2747 = .ok (.invokestatic 247, 3) := by decide +kernel
theorem dL_law_2750 : decode cL_law 2750 = .ok (.istore 5, 2) := by decide +kernel
theorem dL_law_2752 : decode cL_law 2752 = .ok (.aload_n 2, 1) := by decide +kernel
theorem dL_law_2753 : decode cL_law 2753 = .ok (.aload_n 0, 1) := by decide +kernel
theorem dL_law_2754 : decode cL_law 2754 = .ok (.iload 4, 2) := by decide +kernel
theorem dL_law_2756 : decode cL_law 2756 = .ok (.iconst 1, 1) := by decide +kernel
theorem dL_law_2757 : decode cL_law 2757 = .ok (.iadd, 1) := by decide +kernel
theorem dL_law_2758 : decode cL_law 2758 = .ok (.iaload, 1) := by decide +kernel
theorem dL_law_2759 : decode cL_law 2759 = .ok (.aload_n 0, 1) := by decide +kernel
theorem dL_law_2760 : decode cL_law 2760 = .ok (.iload 4, 2) := by decide +kernel
theorem dL_law_2762 : decode cL_law 2762 = .ok (.iconst 2, 1) := by decide +kernel
theorem dL_law_2763 : decode cL_law 2763 = .ok (.iadd, 1) := by decide +kernel
theorem dL_law_2764 : decode cL_law 2764 = .ok (.iaload, 1) := by decide +kernel
theorem dL_law_2765 : decode cL_law 2765 = .ok (.i2l, 1) := by decide +kernel
theorem dL_law_2766 : decode cL_law 2766 = .ok (.bipush 32, 2) := by decide +kernel
theorem dL_law_2768 : decode cL_law 2768 = .ok (.lshl, 1) := by decide +kernel
theorem dL_law_2769 : decode cL_law 2769 = .ok (.aload_n 0, 1) := by decide +kernel
theorem dL_law_2770 : decode cL_law 2770 = .ok (.iload 4, 2) := by decide +kernel
theorem dL_law_2772 : decode cL_law 2772 = .ok (.iconst 3, 1) := by decide +kernel
theorem dL_law_2773 : decode cL_law 2773 = .ok (.iadd, 1) := by decide +kernel
theorem dL_law_2774 : decode cL_law 2774 = .ok (.iaload, 1) := by decide +kernel
theorem dL_law_2775 : decode cL_law 2775 = .ok (.i2l, 1) := by decide +kernel
theorem dL_law_2776 : decode cL_law 2776 = .ok (.ldc2_w 161, 3) := by decide +kernel
theorem dL_law_2779 : decode cL_law 2779 = .ok (.land, 1) := by decide +kernel
theorem dL_law_2780 : decode cL_law 2780 = .ok (.lor, 1) := by decide +kernel
theorem dL_law_2781 : decode cL_law 2781 = .ok (.invokevirtual 249, 3) := by decide +kernel
theorem dL_law_2784 : decode cL_law 2784 = .ok (.lstore 6, 2) := by decide +kernel
theorem dL_law_2786 : decode cL_law 2786 = .ok (.aload_n 2, 1) := by decide +kernel
theorem dL_law_2787 : decode cL_law 2787 = .ok (.invokevirtual 147, 3) := by decide +kernel
theorem dL_law_2790 : decode cL_law 2790 = .ok (.iload 5, 2) := by decide +kernel
theorem dL_law_2792 : decode cL_law 2792 = .ok (.if_icmp .eq 5, 3) := by decide +kernel
theorem dL_law_2797 : decode cL_law 2797 = .ok (.iload 5, 2) := by decide +kernel
theorem dL_law_2799 : decode cL_law 2799 = .ok (.ifCond .ne 14, 3) := by decide +kernel
theorem dL_law_2802 : decode cL_law 2802 = .ok (.aload_n 3, 1) := by decide +kernel
theorem dL_law_2803 : decode cL_law 2803 = .ok (.iconst 0, 1) := by decide +kernel
theorem dL_law_2804 : decode cL_law 2804 = .ok (.laload, 1) := by decide +kernel
theorem dL_law_2805 : decode cL_law 2805 = .ok (.lload 6, 2) := by decide +kernel
theorem dL_law_2807 : decode cL_law 2807 = .ok (.lcmp, 1) := by decide +kernel
theorem dL_law_2808 : decode cL_law 2808 = .ok (.ifCond .eq 5, 3) := by decide +kernel
theorem dL_law_2813 : decode cL_law 2813 = .ok (.goto 127, 3) := by decide +kernel
set_option maxRecDepth 100000 in
set_option maxHeartbeats 4000000 in
theorem lc_look {p : Program} {l : Launch} {e : Env} {mc ms : Nat} {s : State} {m : MethodId} {below : List Frame} {meth : Method} {c : Code} {H : Heap} {locs : List Loc} {cells slots : Nat} {Q : State → Prop} {rt0 : Option FieldType} {nm0 : String} {D : va_G} {cy : Nat → ClassId} {N0 : Nat} {tb : List ExceptionTableEntry} {h : qH} {ls : Array Slot} {b L : Nat} {xs : Nat → Int32} {x y ou : Nat} {fo : Nat → Int64} {gr : Int32} {n i C1 C2 : Nat} {S : Nat → qSlot} {Wo : qWo} (C : qX p l s m #[Value.ref b] meth c RL cL_law 8 rt0 nm0 D cy N0 tb) (hX : va_X b L xs s s.heap) (hbl0 : b < s.heap.size) (hbA : ¬ qA N0 b) (hP : qP D N0 h H) (hS : va_S (qA N0) s.heap H locs) (hi : i + 7 ≤ L) (hL : L ≤ 449) (hn : n < 64) (j : JZ cy h x y ou fo gr n S Wo S Wo) (hp : PI gr n S Wo) (hc1 : cells ≤ C1 + t1 n + Wo.2.1.1 + qP1 Wo.2.1) (hc2 : slots ≤ C2 + t2 n + 10 * Wo.2.1.1 + qP2 Wo.2.1) (hmc : C1 + 530000 ≤ mc) (hms : C2 + 5520000 ≤ ms) (hl : lv_has ls 8 [(4, .int (nI i)), (3, .ref ou), (2, .ref y), (1, .ref x), (0, .ref b)]) (kend : ∀ (ls : Array Slot) (H : Heap) (locs : List Loc) (c1 c2 : Nat) (h : qH) (fo : Nat → Int64) (S : Nat → qSlot) (Wo : qWo), JZ cy h x y ou fo gr (n + 1) S Wo S Wo → PI gr (n + 1) S Wo → c1 ≤ C1 + t1 (n + 1) + Wo.2.1.1 + qP1 Wo.2.1 → c2 ≤ C2 + t2 (n + 1) + 10 * Wo.2.1.1 + qP2 Wo.2.1 → qP D N0 h H → va_S (qA N0) s.heap H locs → lv_has ls 8 [(4, .int (nI i)), (3, .ref ou), (2, .ref y), (1, .ref x), (0, .ref b)] → W p l e (qR 2048 84000 mc ms) s m #[Value.ref b] below meth c H locs c1 c2 Q (F0 m 2940 ls [])) : W p l e (qR 2048 84000 mc ms) s m #[Value.ref b] below meth c H locs cells slots Q (F0 m 2717 ls []) := by
  have hx := C.1
  have hb := C.2.1
  have h1L := t1_le (n + 1) (by omega)
  have h2L := t2_le (n + 1) (by omega)
  have e1L : t1 (n + 1) = t1 n + (1201 + 212 * n) := rfl
  have e2L : t2 (n + 1) = t2 n + (13300 + n * rMs n 7) := rfl
  have hb0 := hp.bnd (by omega)
  refine lv_aload_n hx hb dL_law_2717 rfl (lv_at hl 3 rfl) ?_
  refine lv_aload_n hx hb dL_law_2718 rfl (lv_at hl 4 rfl) ?_
  refine lv_iload hx hb dL_law_2719 (lv_at hl 0 rfl) ?_
  refine lv_iconst (v := nI 1) hx hb dL_law_2721 (by decide) ?_
  refine q_iaddN hx hb dL_law_2722 ?_
  refine va_sld hx hb hX hbl0 hbA hS (nI_in (by omega) (by omega)) dL_law_2723 ?_
  refine lv_topi (fun s1 es1 => ?_)
  refine lv_aload_n hx hb dL_law_2724 rfl (lv_at hl 4 rfl) ?_
  refine lv_iload hx hb dL_law_2725 (lv_at hl 0 rfl) ?_
  refine lv_iconst (v := nI 2) hx hb dL_law_2727 (by decide) ?_
  refine q_iaddN hx hb dL_law_2728 ?_
  refine va_sld hx hb hX hbl0 hbA hS (nI_in (by omega) (by omega)) dL_law_2729 ?_
  refine lv_topi (fun s2 es2 => ?_)
  refine lv_i2l hx hb dL_law_2730 rfl ?_
  refine lv_bipush (v := nI 32) hx hb dL_law_2731 (by decide) ?_
  refine lv_lshl hx hb dL_law_2733 rfl ?_
  refine lv_aload_n hx hb dL_law_2734 rfl (lv_at hl 4 rfl) ?_
  refine lv_iload hx hb dL_law_2735 (lv_at hl 0 rfl) ?_
  refine lv_iconst (v := nI 3) hx hb dL_law_2737 (by decide) ?_
  refine q_iaddN hx hb dL_law_2738 ?_
  refine va_sld hx hb hX hbl0 hbA hS (nI_in (by omega) (by omega)) dL_law_2739 ?_
  refine lv_topi (fun s3 es3 => ?_)
  refine lv_i2l hx hb dL_law_2740 rfl ?_
  refine lv_ldc2 hx hb C.2.2.2.2.1 (C.2.2.2.2.2.1 _ g1484) dL_law_2741 ?_
  refine lv_land hx hb dL_law_2744 ?_
  refine lv_lor hx hb dL_law_2745 ?_
  refine lv_topl (fun q2 eq2 => ?_)
  refine lv_aload_n hx hb dL_law_2746 rfl (lv_at hl 1 rfl) ?_
  have hpK : PI gr (n + 1) (S) (Wo) := hp.up
  have hbK := hpK.bnd (by omega)
  have hmo : MO Wo (Wo) := MO.rf
  have hqm := qP1_mo hmo hb0.2.2.2
  have hm1 := hmo.1
  refine q_callSW (rest := []) C (zl_look l D cy N0 h x y ou fo gr n S Wo s1 q2 j hp hn) kwL_look g1052 g1053 hP hS (by omega) hl.1 rfl (by decide) (by omega) dL_law_2747 (fun v hh1 H locs hq hP hS => ?_)
  obtain ⟨rfl, fo1, j1, ha1⟩ := hq
  obtain ⟨fi, re, rc, rs, so, ot, cn, la, hy1⟩ := j1.yo
  refine lv_istore (lv' := [(5, .int ((xs_look S s1 q2).1)), (4, .int (nI i)), (3, .ref ou), (2, .ref y), (1, .ref x), (0, .ref b)]) hx hb dL_law_2750 hl (by decide) rfl (fun ls hl => ?_)
  refine lv_aload_n hx hb dL_law_2752 rfl (lv_at hl 3 rfl) ?_
  refine lv_aload_n hx hb dL_law_2753 rfl (lv_at hl 5 rfl) ?_
  refine lv_iload hx hb dL_law_2754 (lv_at hl 1 rfl) ?_
  refine lv_iconst (v := nI 1) hx hb dL_law_2756 (by decide) ?_
  refine q_iaddN hx hb dL_law_2757 ?_
  refine va_sld hx hb hX hbl0 hbA hS (nI_in (by omega) (by omega)) dL_law_2758 ?_
  rw [← es1]
  refine lv_aload_n hx hb dL_law_2759 rfl (lv_at hl 5 rfl) ?_
  refine lv_iload hx hb dL_law_2760 (lv_at hl 1 rfl) ?_
  refine lv_iconst (v := nI 2) hx hb dL_law_2762 (by decide) ?_
  refine q_iaddN hx hb dL_law_2763 ?_
  refine va_sld hx hb hX hbl0 hbA hS (nI_in (by omega) (by omega)) dL_law_2764 ?_
  rw [← es2]
  refine lv_i2l hx hb dL_law_2765 rfl ?_
  refine lv_bipush (v := nI 32) hx hb dL_law_2766 (by decide) ?_
  refine lv_lshl hx hb dL_law_2768 rfl ?_
  refine lv_aload_n hx hb dL_law_2769 rfl (lv_at hl 5 rfl) ?_
  refine lv_iload hx hb dL_law_2770 (lv_at hl 1 rfl) ?_
  refine lv_iconst (v := nI 3) hx hb dL_law_2772 (by decide) ?_
  refine q_iaddN hx hb dL_law_2773 ?_
  refine va_sld hx hb hX hbl0 hbA hS (nI_in (by omega) (by omega)) dL_law_2774 ?_
  rw [← es3]
  refine lv_i2l hx hb dL_law_2775 rfl ?_
  refine lv_ldc2 hx hb C.2.2.2.2.1 (C.2.2.2.2.2.1 _ g1484) dL_law_2776 ?_
  refine lv_land hx hb dL_law_2779 ?_
  refine lv_lor hx hb dL_law_2780 ?_
  rw [← eq2]
  refine q_callV (rest := []) C (wl_look l D cy N0 hh1 x y ou fo1 gr n S Wo s1 q2 j1 hp hn) kX8_look g1472 g1473 rfl g1474 g4 hP hS hy1 (by first | decide | omega) hl.1 rfl (by decide) (by first | decide | omega) dL_law_2781 (fun q ce E h' H1 locs1 hE => hE.elim) (fun v hh2 H locs hq hP hS => ?_)
  obtain ⟨rfl, W2, j2, p2, hcd, hw2⟩ := hq
  have hb2 : W2.2.1 = (Wo).2.1 := congrArg Prod.fst hw2
  obtain ⟨fi2, re2, rc2, rs2, so2, ot2, cn2, la2, hy2⟩ := j2.yo
  refine lv_lstore (lv' := [(6, .long ((xs_look S s1 q2).2)), (5, .int ((xs_look S s1 q2).1)), (4, .int (nI i)), (3, .ref ou), (2, .ref y), (1, .ref x), (0, .ref b)]) hx hb dL_law_2784 hl (by decide) rfl (fun ls hl => ?_)
  refine lv_aload_n hx hb dL_law_2786 rfl (lv_at hl 4 rfl) ?_
  refine q_callV (rest := []) C (c_X8_thrown l D cy N0 hh2 y W2.1.1 W2.1.2.1 W2.1.2.2.1 W2.1.2.2.2.1 W2.1.2.2.2.2.1 fi2 re2 rc2 rs2 so2 ot2 cn2 la2 W2.1.2.2.2.2.2.1 W2.1.2.2.2.2.2.2.1 W2.1.2.2.2.2.2.2.2.1 W2.1.2.2.2.2.2.2.2.2.1 W2.1.2.2.2.2.2.2.2.2.2.1 W2.1.2.2.2.2.2.2.2.2.2.2.1 W2.1.2.2.2.2.2.2.2.2.2.2.2.1 (nI W2.2.1.1) (nI W2.2.2.1) W2.1.2.2.2.2.2.2.2.2.2.2.2.2 hy2) kX8_thrown g1238 g1239 rfl g1240 g4 hP hS hy2 (by first | decide | omega) hl.1 rfl (by decide) (by first | decide | omega) dL_law_2787 (fun q ce E h' H1 locs1 hE => hE.elim) (fun v hh3 H locs hq hP hS => ?_)
  obtain ⟨rfl, rfl⟩ := hq
  rw [hcd]
  refine lv_iload hx hb dL_law_2790 (lv_at hl 1 rfl) ?_
  refine lv_icmp_eq (tgt := 2797) hx hb dL_law_2792 (by decide) (fun _ => ?_) (fun c9 => absurd rfl c9)
  refine lv_iload hx hb dL_law_2797 (lv_at hl 1 rfl) ?_
  refine lv_if_ne (tgt := 2813) hx hb dL_law_2799 (by decide) (fun _ => ?_) (fun hk0 => ?_)
  · refine lv_goto (tgt := 2940) hx hb dL_law_2813 (by decide) ?_
    exact kend ls H locs _ _ _ fo1 _ W2 j2 p2 (by rw [hb2]; omega) (by rw [hb2]; omega) hP hS (lv_sub hl [2, 3, 4, 5, 6] rfl)
  · refine lv_aload_n hx hb dL_law_2802 rfl (lv_at hl 3 rfl) ?_
    refine lv_iconst (v := nI 0) hx hb dL_law_2803 (by decide) ?_
    refine q_laldN C hP j2.ouf (by omega) (by omega) dL_law_2804 ?_
    refine lv_lload hx hb dL_law_2805 (lv_at hl 0 rfl) ?_
    refine W.lcmp hx hb dL_law_2807 ?_
    refine lv_if_eq (tgt := 2813) hx hb dL_law_2808 (by decide) (fun _ => ?_) (fun c9 => absurd ((lg_cmp_eq _ _).mpr (ha1 hk0)) c9)
    refine lv_goto (tgt := 2940) hx hb dL_law_2813 (by decide) ?_
    exact kend ls H locs _ _ _ fo1 _ W2 j2 p2 (by rw [hb2]; omega) (by rw [hb2]; omega) hP hS (lv_sub hl [2, 3, 4, 5, 6] rfl)
theorem dL_law_2816 : decode cL_law 2816 = .ok (.aload_n 1, 1) := by decide +kernel
theorem dL_law_2817 : decode cL_law 2817 = .ok (.aload_n 0, 1) := by decide +kernel
theorem dL_law_2818 : decode cL_law 2818 = .ok (.iload 4, 2) := by decide +kernel
theorem dL_law_2820 : decode cL_law 2820 = .ok (.iconst 1, 1) := by decide +kernel
theorem dL_law_2821 : decode cL_law 2821 = .ok (.iadd, 1) := by decide +kernel
theorem dL_law_2822 : decode cL_law 2822 = .ok (.iaload, 1) := by decide +kernel
theorem dL_law_2823 : decode cL_law 2823 = .ok (.aload_n 0, 1) := by decide +kernel
theorem dL_law_2824 : decode cL_law 2824 = .ok (.iload 4, 2) := by decide +kernel
theorem dL_law_2826 : decode cL_law 2826 = .ok (.iconst 2, 1) := by decide +kernel
theorem dL_law_2827 : decode cL_law 2827 = .ok (.iadd, 1) := by decide +kernel
theorem dL_law_2828 : decode cL_law 2828 = .ok (.iaload, 1) := by decide +kernel
theorem dL_law_2829 : decode cL_law 2829 = .ok (.aload_n 3, 1) := by decide +kernel
theorem dL_law_2830 : decode cL_law 2830 = .ok (.invokestatic 250, 3) := by decide +kernel
theorem dL_law_2833 : decode cL_law 2833 = .ok (.istore 5, 2) := by decide +kernel
theorem dL_law_2835 : decode cL_law 2835 = .ok (.aload_n 2, 1) := by decide +kernel
theorem dL_law_2836 : decode cL_law 2836 = .ok (.aload_n 0, 1) := by decide +kernel
theorem dL_law_2837 : decode cL_law 2837 = .ok (.iload 4, 2) := by decide +kernel
theorem dL_law_2839 : decode cL_law 2839 = .ok (.iconst 1, 1) := by decide +kernel
theorem dL_law_2840 : decode cL_law 2840 = .ok (.iadd, 1) := by decide +kernel
theorem dL_law_2841 : decode cL_law 2841 = .ok (.iaload, 1) := by decide +kernel
theorem dL_law_2842 : decode cL_law 2842 = .ok (.aload_n 0, 1) := by decide +kernel
theorem dL_law_2843 : decode cL_law 2843 = .ok (.iload 4, 2) := by decide +kernel
theorem dL_law_2845 : decode cL_law 2845 = .ok (.iconst 2, 1) := by decide +kernel
theorem dL_law_2846 : decode cL_law 2846 = .ok (.iadd, 1) := by decide +kernel
theorem dL_law_2847 : decode cL_law 2847 = .ok (.iaload, 1) := by decide +kernel
theorem dL_law_2848 : decode cL_law 2848 = .ok (.invokevirtual 252, 3) := by decide +kernel
theorem dL_law_2851 : decode cL_law 2851 = .ok (.istore 6, 2) := by decide +kernel
theorem dL_law_2853 : decode cL_law 2853 = .ok (.aload_n 2, 1) := by decide +kernel
theorem dL_law_2854 : decode cL_law 2854 = .ok (.invokevirtual 147, 3) := by decide +kernel
theorem dL_law_2857 : decode cL_law 2857 = .ok (.iload 5, 2) := by decide +kernel
theorem dL_law_2859 : decode cL_law 2859 = .ok (.if_icmp .eq 5, 3) := by decide +kernel
theorem dL_law_2864 : decode cL_law 2864 = .ok (.iload 5, 2) := by decide +kernel
theorem dL_law_2866 : decode cL_law 2866 = .ok (.ifCond .ne 15, 3) := by decide +kernel
theorem dL_law_2869 : decode cL_law 2869 = .ok (.aload_n 3, 1) := by decide +kernel
theorem dL_law_2870 : decode cL_law 2870 = .ok (.iconst 0, 1) := by decide +kernel
theorem dL_law_2871 : decode cL_law 2871 = .ok (.laload, 1) := by decide +kernel
theorem dL_law_2872 : decode cL_law 2872 = .ok (.iload 6, 2) := by decide +kernel
theorem dL_law_2874 : decode cL_law 2874 = .ok (.i2l, 1) := by decide +kernel
theorem dL_law_2875 : decode cL_law 2875 = .ok (.lcmp, 1) := by decide +kernel
theorem dL_law_2876 : decode cL_law 2876 = .ok (.ifCond .eq 5, 3) := by decide +kernel
theorem dL_law_2881 : decode cL_law 2881 = .ok (.goto 59, 3) := by decide +kernel
set_option maxRecDepth 100000 in
set_option maxHeartbeats 4000000 in
theorem lc_freeze {p : Program} {l : Launch} {e : Env} {mc ms : Nat} {s : State} {m : MethodId} {below : List Frame} {meth : Method} {c : Code} {H : Heap} {locs : List Loc} {cells slots : Nat} {Q : State → Prop} {rt0 : Option FieldType} {nm0 : String} {D : va_G} {cy : Nat → ClassId} {N0 : Nat} {tb : List ExceptionTableEntry} {h : qH} {ls : Array Slot} {b L : Nat} {xs : Nat → Int32} {x y ou : Nat} {fo : Nat → Int64} {gr : Int32} {n i C1 C2 : Nat} {S : Nat → qSlot} {Wo : qWo} (C : qX p l s m #[Value.ref b] meth c RL cL_law 8 rt0 nm0 D cy N0 tb) (hX : va_X b L xs s s.heap) (hbl0 : b < s.heap.size) (hbA : ¬ qA N0 b) (hP : qP D N0 h H) (hS : va_S (qA N0) s.heap H locs) (hi : i + 7 ≤ L) (hL : L ≤ 449) (hn : n < 64) (j : JZ cy h x y ou fo gr n S Wo S Wo) (hp : PI gr n S Wo) (hc1 : cells ≤ C1 + t1 n + Wo.2.1.1 + qP1 Wo.2.1) (hc2 : slots ≤ C2 + t2 n + 10 * Wo.2.1.1 + qP2 Wo.2.1) (hmc : C1 + 530000 ≤ mc) (hms : C2 + 5520000 ≤ ms) (hl : lv_has ls 8 [(4, .int (nI i)), (3, .ref ou), (2, .ref y), (1, .ref x), (0, .ref b)]) (kend : ∀ (ls : Array Slot) (H : Heap) (locs : List Loc) (c1 c2 : Nat) (h : qH) (fo : Nat → Int64) (S : Nat → qSlot) (Wo : qWo), JZ cy h x y ou fo gr (n + 1) S Wo S Wo → PI gr (n + 1) S Wo → c1 ≤ C1 + t1 (n + 1) + Wo.2.1.1 + qP1 Wo.2.1 → c2 ≤ C2 + t2 (n + 1) + 10 * Wo.2.1.1 + qP2 Wo.2.1 → qP D N0 h H → va_S (qA N0) s.heap H locs → lv_has ls 8 [(4, .int (nI i)), (3, .ref ou), (2, .ref y), (1, .ref x), (0, .ref b)] → W p l e (qR 2048 84000 mc ms) s m #[Value.ref b] below meth c H locs c1 c2 Q (F0 m 2940 ls [])) : W p l e (qR 2048 84000 mc ms) s m #[Value.ref b] below meth c H locs cells slots Q (F0 m 2816 ls []) := by
  have hx := C.1
  have hb := C.2.1
  have h1L := t1_le (n + 1) (by omega)
  have h2L := t2_le (n + 1) (by omega)
  have e1L : t1 (n + 1) = t1 n + (1201 + 212 * n) := rfl
  have e2L : t2 (n + 1) = t2 n + (13300 + n * rMs n 7) := rfl
  have hb0 := hp.bnd (by omega)
  refine lv_aload_n hx hb dL_law_2816 rfl (lv_at hl 3 rfl) ?_
  refine lv_aload_n hx hb dL_law_2817 rfl (lv_at hl 4 rfl) ?_
  refine lv_iload hx hb dL_law_2818 (lv_at hl 0 rfl) ?_
  refine lv_iconst (v := nI 1) hx hb dL_law_2820 (by decide) ?_
  refine q_iaddN hx hb dL_law_2821 ?_
  refine va_sld hx hb hX hbl0 hbA hS (nI_in (by omega) (by omega)) dL_law_2822 ?_
  refine lv_topi (fun s1 es1 => ?_)
  refine lv_aload_n hx hb dL_law_2823 rfl (lv_at hl 4 rfl) ?_
  refine lv_iload hx hb dL_law_2824 (lv_at hl 0 rfl) ?_
  refine lv_iconst (v := nI 2) hx hb dL_law_2826 (by decide) ?_
  refine q_iaddN hx hb dL_law_2827 ?_
  refine va_sld hx hb hX hbl0 hbA hS (nI_in (by omega) (by omega)) dL_law_2828 ?_
  refine lv_topi (fun s2 es2 => ?_)
  refine lv_aload_n hx hb dL_law_2829 rfl (lv_at hl 1 rfl) ?_
  have hpK : PI gr (n + 1) ((xs_freeze S s1 s2).2.1) (Wo) := hp.freeze
  have hbK := hpK.bnd (by omega)
  have hmo : MO Wo (Wo) := MO.rf
  have hqm := qP1_mo hmo hb0.2.2.2
  have hm1 := hmo.1
  refine q_callSW (rest := []) C (zl_freeze l D cy N0 h x y ou fo gr n S Wo s1 s2 j hp hn) kwL_freeze g1059 g1060 hP hS (by omega) hl.1 rfl (by decide) (by omega) dL_law_2830 (fun v hh1 H locs hq hP hS => ?_)
  obtain ⟨rfl, fo1, j1, ha1⟩ := hq
  obtain ⟨fi, re, rc, rs, so, ot, cn, la, hy1⟩ := j1.yo
  refine lv_istore (lv' := [(5, .int ((xs_freeze S s1 s2).1)), (4, .int (nI i)), (3, .ref ou), (2, .ref y), (1, .ref x), (0, .ref b)]) hx hb dL_law_2833 hl (by decide) rfl (fun ls hl => ?_)
  refine lv_aload_n hx hb dL_law_2835 rfl (lv_at hl 3 rfl) ?_
  refine lv_aload_n hx hb dL_law_2836 rfl (lv_at hl 5 rfl) ?_
  refine lv_iload hx hb dL_law_2837 (lv_at hl 1 rfl) ?_
  refine lv_iconst (v := nI 1) hx hb dL_law_2839 (by decide) ?_
  refine q_iaddN hx hb dL_law_2840 ?_
  refine va_sld hx hb hX hbl0 hbA hS (nI_in (by omega) (by omega)) dL_law_2841 ?_
  rw [← es1]
  refine lv_aload_n hx hb dL_law_2842 rfl (lv_at hl 5 rfl) ?_
  refine lv_iload hx hb dL_law_2843 (lv_at hl 1 rfl) ?_
  refine lv_iconst (v := nI 2) hx hb dL_law_2845 (by decide) ?_
  refine q_iaddN hx hb dL_law_2846 ?_
  refine va_sld hx hb hX hbl0 hbA hS (nI_in (by omega) (by omega)) dL_law_2847 ?_
  rw [← es2]
  refine q_callV (rest := []) C (wl_freeze l D cy N0 hh1 x y ou fo1 gr n S Wo s1 s2 j1 hp hn) kX8_freeze g1476 g1477 rfl g1478 g4 hP hS hy1 (by first | decide | omega) hl.1 rfl (by decide) (by first | decide | omega) dL_law_2848 (fun q ce E h' H1 locs1 hE => hE.elim) (fun v hh2 H locs hq hP hS => ?_)
  obtain ⟨rfl, W2, j2, p2, hcd, hw2⟩ := hq
  have hb2 : W2.2.1 = (Wo).2.1 := congrArg Prod.fst hw2
  obtain ⟨fi2, re2, rc2, rs2, so2, ot2, cn2, la2, hy2⟩ := j2.yo
  refine lv_istore (lv' := [(6, .int ((xs_freeze S s1 s2).2.2)), (5, .int ((xs_freeze S s1 s2).1)), (4, .int (nI i)), (3, .ref ou), (2, .ref y), (1, .ref x), (0, .ref b)]) hx hb dL_law_2851 hl (by decide) rfl (fun ls hl => ?_)
  refine lv_aload_n hx hb dL_law_2853 rfl (lv_at hl 4 rfl) ?_
  refine q_callV (rest := []) C (c_X8_thrown l D cy N0 hh2 y W2.1.1 W2.1.2.1 W2.1.2.2.1 W2.1.2.2.2.1 W2.1.2.2.2.2.1 fi2 re2 rc2 rs2 so2 ot2 cn2 la2 W2.1.2.2.2.2.2.1 W2.1.2.2.2.2.2.2.1 W2.1.2.2.2.2.2.2.2.1 W2.1.2.2.2.2.2.2.2.2.1 W2.1.2.2.2.2.2.2.2.2.2.1 W2.1.2.2.2.2.2.2.2.2.2.2.1 W2.1.2.2.2.2.2.2.2.2.2.2.2.1 (nI W2.2.1.1) (nI W2.2.2.1) W2.1.2.2.2.2.2.2.2.2.2.2.2.2 hy2) kX8_thrown g1238 g1239 rfl g1240 g4 hP hS hy2 (by first | decide | omega) hl.1 rfl (by decide) (by first | decide | omega) dL_law_2854 (fun q ce E h' H1 locs1 hE => hE.elim) (fun v hh3 H locs hq hP hS => ?_)
  obtain ⟨rfl, rfl⟩ := hq
  rw [hcd]
  refine lv_iload hx hb dL_law_2857 (lv_at hl 1 rfl) ?_
  refine lv_icmp_eq (tgt := 2864) hx hb dL_law_2859 (by decide) (fun _ => ?_) (fun c9 => absurd rfl c9)
  refine lv_iload hx hb dL_law_2864 (lv_at hl 1 rfl) ?_
  refine lv_if_ne (tgt := 2881) hx hb dL_law_2866 (by decide) (fun _ => ?_) (fun hk0 => ?_)
  · refine lv_goto (tgt := 2940) hx hb dL_law_2881 (by decide) ?_
    exact kend ls H locs _ _ _ fo1 _ W2 j2 p2 (by rw [hb2]; omega) (by rw [hb2]; omega) hP hS (lv_sub hl [2, 3, 4, 5, 6] rfl)
  · refine lv_aload_n hx hb dL_law_2869 rfl (lv_at hl 3 rfl) ?_
    refine lv_iconst (v := nI 0) hx hb dL_law_2870 (by decide) ?_
    refine q_laldN C hP j2.ouf (by omega) (by omega) dL_law_2871 ?_
    refine lv_iload hx hb dL_law_2872 (lv_at hl 0 rfl) ?_
    refine lv_i2l hx hb dL_law_2874 rfl ?_
    refine W.lcmp hx hb dL_law_2875 ?_
    refine lv_if_eq (tgt := 2881) hx hb dL_law_2876 (by decide) (fun _ => ?_) (fun c9 => absurd ((lg_cmp_eq _ _).mpr (ha1 hk0)) c9)
    refine lv_goto (tgt := 2940) hx hb dL_law_2881 (by decide) ?_
    exact kend ls H locs _ _ _ fo1 _ W2 j2 p2 (by rw [hb2]; omega) (by rw [hb2]; omega) hP hS (lv_sub hl [2, 3, 4, 5, 6] rfl)
theorem dL_law_2884 : decode cL_law 2884 = .ok (.aload_n 1, 1) := by decide +kernel
theorem dL_law_2885 : decode cL_law 2885 = .ok (.aload_n 0, 1) := by decide +kernel
theorem dL_law_2886 : decode cL_law 2886 = .ok (.iload 4, 2) := by decide +kernel
theorem dL_law_2888 : decode cL_law 2888 = .ok (.iconst 1, 1) := by decide +kernel
theorem dL_law_2889 : decode cL_law 2889 = .ok (.iadd, 1) := by decide +kernel
theorem dL_law_2890 : decode cL_law 2890 = .ok (.iaload, 1) := by decide +kernel
theorem dL_law_2891 : decode cL_law 2891 = .ok (.aload_n 3, 1) := by decide +kernel
theorem dL_law_2892 : decode cL_law 2892 = .ok (.invokestatic 253, 3) := by decide +kernel
theorem dL_law_2895 : decode cL_law 2895 = .ok (.istore 5, 2) := by decide +kernel
theorem dL_law_2897 : decode cL_law 2897 = .ok (.aload_n 2, 1) := by decide +kernel
theorem dL_law_2898 : decode cL_law 2898 = .ok (.aload_n 0, 1) := by decide +kernel
theorem dL_law_2899 : decode cL_law 2899 = .ok (.iload 4, 2) := by decide +kernel
theorem dL_law_2901 : decode cL_law 2901 = .ok (.iconst 1, 1) := by decide +kernel
theorem dL_law_2902 : decode cL_law 2902 = .ok (.iadd, 1) := by decide +kernel
theorem dL_law_2903 : decode cL_law 2903 = .ok (.iaload, 1) := by decide +kernel
theorem dL_law_2904 : decode cL_law 2904 = .ok (.invokevirtual 255, 3) := by decide +kernel
theorem dL_law_2907 : decode cL_law 2907 = .ok (.istore 6, 2) := by decide +kernel
theorem dL_law_2909 : decode cL_law 2909 = .ok (.aload_n 2, 1) := by decide +kernel
theorem dL_law_2910 : decode cL_law 2910 = .ok (.invokevirtual 147, 3) := by decide +kernel
theorem dL_law_2913 : decode cL_law 2913 = .ok (.iload 5, 2) := by decide +kernel
theorem dL_law_2915 : decode cL_law 2915 = .ok (.if_icmp .eq 5, 3) := by decide +kernel
theorem dL_law_2920 : decode cL_law 2920 = .ok (.iload 5, 2) := by decide +kernel
theorem dL_law_2922 : decode cL_law 2922 = .ok (.ifCond .ne 15, 3) := by decide +kernel
theorem dL_law_2925 : decode cL_law 2925 = .ok (.aload_n 3, 1) := by decide +kernel
theorem dL_law_2926 : decode cL_law 2926 = .ok (.iconst 0, 1) := by decide +kernel
theorem dL_law_2927 : decode cL_law 2927 = .ok (.laload, 1) := by decide +kernel
theorem dL_law_2928 : decode cL_law 2928 = .ok (.iload 6, 2) := by decide +kernel
theorem dL_law_2930 : decode cL_law 2930 = .ok (.i2l, 1) := by decide +kernel
theorem dL_law_2931 : decode cL_law 2931 = .ok (.lcmp, 1) := by decide +kernel
theorem dL_law_2932 : decode cL_law 2932 = .ok (.ifCond .eq 5, 3) := by decide +kernel
theorem dL_law_2937 : decode cL_law 2937 = .ok (.goto 3, 3) := by decide +kernel
set_option maxRecDepth 100000 in
set_option maxHeartbeats 4000000 in
theorem lc_count {p : Program} {l : Launch} {e : Env} {mc ms : Nat} {s : State} {m : MethodId} {below : List Frame} {meth : Method} {c : Code} {H : Heap} {locs : List Loc} {cells slots : Nat} {Q : State → Prop} {rt0 : Option FieldType} {nm0 : String} {D : va_G} {cy : Nat → ClassId} {N0 : Nat} {tb : List ExceptionTableEntry} {h : qH} {ls : Array Slot} {b L : Nat} {xs : Nat → Int32} {x y ou : Nat} {fo : Nat → Int64} {gr : Int32} {n i C1 C2 : Nat} {S : Nat → qSlot} {Wo : qWo} (C : qX p l s m #[Value.ref b] meth c RL cL_law 8 rt0 nm0 D cy N0 tb) (hX : va_X b L xs s s.heap) (hbl0 : b < s.heap.size) (hbA : ¬ qA N0 b) (hP : qP D N0 h H) (hS : va_S (qA N0) s.heap H locs) (hi : i + 7 ≤ L) (hL : L ≤ 449) (hn : n < 64) (j : JZ cy h x y ou fo gr n S Wo S Wo) (hp : PI gr n S Wo) (hc1 : cells ≤ C1 + t1 n + Wo.2.1.1 + qP1 Wo.2.1) (hc2 : slots ≤ C2 + t2 n + 10 * Wo.2.1.1 + qP2 Wo.2.1) (hmc : C1 + 530000 ≤ mc) (hms : C2 + 5520000 ≤ ms) (hl : lv_has ls 8 [(4, .int (nI i)), (3, .ref ou), (2, .ref y), (1, .ref x), (0, .ref b)]) (kend : ∀ (ls : Array Slot) (H : Heap) (locs : List Loc) (c1 c2 : Nat) (h : qH) (fo : Nat → Int64) (S : Nat → qSlot) (Wo : qWo), JZ cy h x y ou fo gr (n + 1) S Wo S Wo → PI gr (n + 1) S Wo → c1 ≤ C1 + t1 (n + 1) + Wo.2.1.1 + qP1 Wo.2.1 → c2 ≤ C2 + t2 (n + 1) + 10 * Wo.2.1.1 + qP2 Wo.2.1 → qP D N0 h H → va_S (qA N0) s.heap H locs → lv_has ls 8 [(4, .int (nI i)), (3, .ref ou), (2, .ref y), (1, .ref x), (0, .ref b)] → W p l e (qR 2048 84000 mc ms) s m #[Value.ref b] below meth c H locs c1 c2 Q (F0 m 2940 ls [])) : W p l e (qR 2048 84000 mc ms) s m #[Value.ref b] below meth c H locs cells slots Q (F0 m 2884 ls []) := by
  have hx := C.1
  have hb := C.2.1
  have h1L := t1_le (n + 1) (by omega)
  have h2L := t2_le (n + 1) (by omega)
  have e1L : t1 (n + 1) = t1 n + (1201 + 212 * n) := rfl
  have e2L : t2 (n + 1) = t2 n + (13300 + n * rMs n 7) := rfl
  have hb0 := hp.bnd (by omega)
  refine lv_aload_n hx hb dL_law_2884 rfl (lv_at hl 3 rfl) ?_
  refine lv_aload_n hx hb dL_law_2885 rfl (lv_at hl 4 rfl) ?_
  refine lv_iload hx hb dL_law_2886 (lv_at hl 0 rfl) ?_
  refine lv_iconst (v := nI 1) hx hb dL_law_2888 (by decide) ?_
  refine q_iaddN hx hb dL_law_2889 ?_
  refine va_sld hx hb hX hbl0 hbA hS (nI_in (by omega) (by omega)) dL_law_2890 ?_
  refine lv_topi (fun s1 es1 => ?_)
  refine lv_aload_n hx hb dL_law_2891 rfl (lv_at hl 1 rfl) ?_
  have hpK : PI gr (n + 1) (S) (Wo) := hp.up
  have hbK := hpK.bnd (by omega)
  have hmo : MO Wo (Wo) := MO.rf
  have hqm := qP1_mo hmo hb0.2.2.2
  have hm1 := hmo.1
  refine q_callSW (rest := []) C (zl_count l D cy N0 h x y ou fo gr n S Wo s1 j hp hn) kwL_count g1073 g1074 hP hS (by omega) hl.1 rfl (by decide) (by omega) dL_law_2892 (fun v hh1 H locs hq hP hS => ?_)
  obtain ⟨rfl, fo1, j1, ha1⟩ := hq
  obtain ⟨fi, re, rc, rs, so, ot, cn, la, hy1⟩ := j1.yo
  refine lv_istore (lv' := [(5, .int ((xs_count S (oCq Wo.1) (oMq Wo.1) s1).1)), (4, .int (nI i)), (3, .ref ou), (2, .ref y), (1, .ref x), (0, .ref b)]) hx hb dL_law_2895 hl (by decide) rfl (fun ls hl => ?_)
  refine lv_aload_n hx hb dL_law_2897 rfl (lv_at hl 3 rfl) ?_
  refine lv_aload_n hx hb dL_law_2898 rfl (lv_at hl 5 rfl) ?_
  refine lv_iload hx hb dL_law_2899 (lv_at hl 1 rfl) ?_
  refine lv_iconst (v := nI 1) hx hb dL_law_2901 (by decide) ?_
  refine q_iaddN hx hb dL_law_2902 ?_
  refine va_sld hx hb hX hbl0 hbA hS (nI_in (by omega) (by omega)) dL_law_2903 ?_
  rw [← es1]
  refine q_callV (rest := []) C (wl_count l D cy N0 hh1 x y ou fo1 gr n S Wo s1 j1 hp hn) kX8_count g1480 g1481 rfl g1482 g4 hP hS hy1 (by first | decide | omega) hl.1 rfl (by decide) (by first | decide | omega) dL_law_2904 (fun q ce E h' H1 locs1 hE => hE.elim) (fun v hh2 H locs hq hP hS => ?_)
  obtain ⟨rfl, W2, j2, p2, hcd, hw2⟩ := hq
  have hb2 : W2.2.1 = (Wo).2.1 := congrArg Prod.fst hw2
  obtain ⟨fi2, re2, rc2, rs2, so2, ot2, cn2, la2, hy2⟩ := j2.yo
  refine lv_istore (lv' := [(6, .int ((xs_count S (oCq Wo.1) (oMq Wo.1) s1).2)), (5, .int ((xs_count S (oCq Wo.1) (oMq Wo.1) s1).1)), (4, .int (nI i)), (3, .ref ou), (2, .ref y), (1, .ref x), (0, .ref b)]) hx hb dL_law_2907 hl (by decide) rfl (fun ls hl => ?_)
  refine lv_aload_n hx hb dL_law_2909 rfl (lv_at hl 4 rfl) ?_
  refine q_callV (rest := []) C (c_X8_thrown l D cy N0 hh2 y W2.1.1 W2.1.2.1 W2.1.2.2.1 W2.1.2.2.2.1 W2.1.2.2.2.2.1 fi2 re2 rc2 rs2 so2 ot2 cn2 la2 W2.1.2.2.2.2.2.1 W2.1.2.2.2.2.2.2.1 W2.1.2.2.2.2.2.2.2.1 W2.1.2.2.2.2.2.2.2.2.1 W2.1.2.2.2.2.2.2.2.2.2.1 W2.1.2.2.2.2.2.2.2.2.2.2.1 W2.1.2.2.2.2.2.2.2.2.2.2.2.1 (nI W2.2.1.1) (nI W2.2.2.1) W2.1.2.2.2.2.2.2.2.2.2.2.2.2 hy2) kX8_thrown g1238 g1239 rfl g1240 g4 hP hS hy2 (by first | decide | omega) hl.1 rfl (by decide) (by first | decide | omega) dL_law_2910 (fun q ce E h' H1 locs1 hE => hE.elim) (fun v hh3 H locs hq hP hS => ?_)
  obtain ⟨rfl, rfl⟩ := hq
  rw [hcd]
  refine lv_iload hx hb dL_law_2913 (lv_at hl 1 rfl) ?_
  refine lv_icmp_eq (tgt := 2920) hx hb dL_law_2915 (by decide) (fun _ => ?_) (fun c9 => absurd rfl c9)
  refine lv_iload hx hb dL_law_2920 (lv_at hl 1 rfl) ?_
  refine lv_if_ne (tgt := 2937) hx hb dL_law_2922 (by decide) (fun _ => ?_) (fun hk0 => ?_)
  · refine lv_goto (tgt := 2940) hx hb dL_law_2937 (by decide) ?_
    exact kend ls H locs _ _ _ fo1 _ W2 j2 p2 (by rw [hb2]; omega) (by rw [hb2]; omega) hP hS (lv_sub hl [2, 3, 4, 5, 6] rfl)
  · refine lv_aload_n hx hb dL_law_2925 rfl (lv_at hl 3 rfl) ?_
    refine lv_iconst (v := nI 0) hx hb dL_law_2926 (by decide) ?_
    refine q_laldN C hP j2.ouf (by omega) (by omega) dL_law_2927 ?_
    refine lv_iload hx hb dL_law_2928 (lv_at hl 0 rfl) ?_
    refine lv_i2l hx hb dL_law_2930 rfl ?_
    refine W.lcmp hx hb dL_law_2931 ?_
    refine lv_if_eq (tgt := 2937) hx hb dL_law_2932 (by decide) (fun _ => ?_) (fun c9 => absurd ((lg_cmp_eq _ _).mpr (ha1 hk0)) c9)
    refine lv_goto (tgt := 2940) hx hb dL_law_2937 (by decide) ?_
    exact kend ls H locs _ _ _ fo1 _ W2 j2 p2 (by rw [hb2]; omega) (by rw [hb2]; omega) hP hS (lv_sub hl [2, 3, 4, 5, 6] rfl)
