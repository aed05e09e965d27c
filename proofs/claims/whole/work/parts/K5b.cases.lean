theorem dL_law_965 : decode cL_law 965 = .ok (.aload_n 1, 1) := by decide +kernel
theorem dL_law_966 : decode cL_law 966 = .ok (.aload_n 0, 1) := by decide +kernel
theorem dL_law_967 : decode cL_law 967 = .ok (.iload 4, 2) := by decide +kernel
theorem dL_law_969 : decode cL_law 969 = .ok (.iconst 1, 1) := by decide +kernel
theorem dL_law_970 : decode cL_law 970 = .ok (.iadd, 1) := by decide +kernel
theorem dL_law_971 : decode cL_law 971 = .ok (.iaload, 1) := by decide +kernel
theorem dL_law_972 : decode cL_law 972 = .ok (.aload_n 3, 1) := by decide +kernel
theorem dL_law_973 : decode cL_law 973 = .ok (.invokestatic 186, 3) := by decide +kernel
theorem dL_law_976 : decode cL_law 976 = .ok (.istore 5, 2) := by decide +kernel
theorem dL_law_978 : decode cL_law 978 = .ok (.aload_n 2, 1) := by decide +kernel
theorem dL_law_979 : decode cL_law 979 = .ok (.aload_n 0, 1) := by decide +kernel
theorem dL_law_980 : decode cL_law 980 = .ok (.iload 4, 2) := by decide +kernel
theorem dL_law_982 : decode cL_law 982 = .ok (.iconst 1, 1) := by decide +kernel
theorem dL_law_983 : decode cL_law 983 = .ok (.iadd, 1) := by decide +kernel
theorem dL_law_984 : decode cL_law 984 = .ok (.iaload, 1) := by decide +kernel
theorem dL_law_985 : decode cL_law 985 = .ok (.invokevirtual 188, 3) := by decide +kernel
theorem dL_law_988 : decode cL_law 988 = .ok (.lstore 6, 2) := by decide +kernel
theorem dL_law_990 : decode cL_law 990 = .ok (.aload_n 2, 1) := by decide +kernel
theorem dL_law_991 : decode cL_law 991 = .ok (.invokevirtual 147, 3) := by decide +kernel
theorem dL_law_994 : decode cL_law 994 = .ok (.iload 5, 2) := by decide +kernel
theorem dL_law_996 : decode cL_law 996 = .ok (.if_icmp .eq 5, 3) := by decide +kernel
theorem dL_law_1001 : decode cL_law 1001 = .ok (.iload 5, 2) := by decide +kernel
theorem dL_law_1003 : decode cL_law 1003 = .ok (.ifCond .ne 14, 3) := by decide +kernel
theorem dL_law_1006 : decode cL_law 1006 = .ok (.aload_n 3, 1) := by decide +kernel
theorem dL_law_1007 : decode cL_law 1007 = .ok (.iconst 0, 1) := by decide +kernel
theorem dL_law_1008 : decode cL_law 1008 = .ok (.laload, 1) := by decide +kernel
theorem dL_law_1009 : decode cL_law 1009 = .ok (.lload 6, 2) := by decide +kernel
theorem dL_law_1011 : decode cL_law 1011 = .ok (.lcmp, 1) := by decide +kernel
theorem dL_law_1012 : decode cL_law 1012 = .ok (.ifCond .eq 5, 3) := by decide +kernel
theorem dL_law_1017 : decode cL_law 1017 = .ok (.goto 1923, 3) := by decide +kernel
set_option maxRecDepth 100000 in
set_option maxHeartbeats 4000000 in
theorem lc_front {p : Program} {l : Launch} {e : Env} {mc ms : Nat} {s : State} {m : MethodId} {below : List Frame} {meth : Method} {c : Code} {H : Heap} {locs : List Loc} {cells slots : Nat} {Q : State → Prop} {rt0 : Option FieldType} {nm0 : String} {D : va_G} {cy : Nat → ClassId} {N0 : Nat} {tb : List ExceptionTableEntry} {h : qH} {ls : Array Slot} {b L : Nat} {xs : Nat → Int32} {x y ou : Nat} {fo : Nat → Int64} {gr : Int32} {n i C1 C2 : Nat} {S : Nat → qSlot} {Wo : qWo} (C : qX p l s m #[Value.ref b] meth c RL cL_law 8 rt0 nm0 D cy N0 tb) (hX : va_X b L xs s s.heap) (hbl0 : b < s.heap.size) (hbA : ¬ qA N0 b) (hP : qP D N0 h H) (hS : va_S (qA N0) s.heap H locs) (hi : i + 7 ≤ L) (hL : L ≤ 449) (hn : n < 64) (j : JZ cy h x y ou fo gr n S Wo S Wo) (hp : PI gr n S Wo) (hc1 : cells ≤ C1 + t1 n + Wo.2.1.1 + qP1 Wo.2.1) (hc2 : slots ≤ C2 + t2 n + 10 * Wo.2.1.1 + qP2 Wo.2.1) (hmc : C1 + 530000 ≤ mc) (hms : C2 + 5520000 ≤ ms) (hl : lv_has ls 8 [(4, .int (nI i)), (3, .ref ou), (2, .ref y), (1, .ref x), (0, .ref b)]) (kend : ∀ (ls : Array Slot) (H : Heap) (locs : List Loc) (c1 c2 : Nat) (h : qH) (fo : Nat → Int64) (S : Nat → qSlot) (Wo : qWo), JZ cy h x y ou fo gr (n + 1) S Wo S Wo → PI gr (n + 1) S Wo → c1 ≤ C1 + t1 (n + 1) + Wo.2.1.1 + qP1 Wo.2.1 → c2 ≤ C2 + t2 (n + 1) + 10 * Wo.2.1.1 + qP2 Wo.2.1 → qP D N0 h H → va_S (qA N0) s.heap H locs → lv_has ls 8 [(4, .int (nI i)), (3, .ref ou), (2, .ref y), (1, .ref x), (0, .ref b)] → W p l e (qR 2048 84000 mc ms) s m #[Value.ref b] below meth c H locs c1 c2 Q (F0 m 2940 ls [])) : W p l e (qR 2048 84000 mc ms) s m #[Value.ref b] below meth c H locs cells slots Q (F0 m 965 ls []) := by
  have hx := C.1
  have hb := C.2.1
  have h1L := t1_le (n + 1) (by omega)
  have h2L := t2_le (n + 1) (by omega)
  have e1L : t1 (n + 1) = t1 n + (1201 + 212 * n) := rfl
  have e2L : t2 (n + 1) = t2 n + (13300 + n * rMs n 7) := rfl
  have hb0 := hp.bnd (by omega)
  refine lv_aload_n hx hb dL_law_965 rfl (lv_at hl 3 rfl) ?_
  refine lv_aload_n hx hb dL_law_966 rfl (lv_at hl 4 rfl) ?_
  refine lv_iload hx hb dL_law_967 (lv_at hl 0 rfl) ?_
  refine lv_iconst (v := nI 1) hx hb dL_law_969 (by decide) ?_
  refine q_iaddN hx hb dL_law_970 ?_
  refine va_sld hx hb hX hbl0 hbA hS (nI_in (by omega) (by omega)) dL_law_971 ?_
  refine lv_topi (fun s1 es1 => ?_)
  refine lv_aload_n hx hb dL_law_972 rfl (lv_at hl 1 rfl) ?_
  have hpK : PI gr (n + 1) (S) (Wo) := hp.up
  have hbK := hpK.bnd (by omega)
  have hmo : MO Wo (Wo) := MO.rf
  have hqm := qP1_mo hmo hb0.2.2.2
  have hm1 := hmo.1
  refine q_callSW (rest := []) C (zl_front l D cy N0 h x y ou fo gr n S Wo s1 j hp hn) kwL_front g742 g743 hP hS (by omega) hl.1 rfl (by decide) (by omega) dL_law_973 (fun v hh1 H locs hq hP hS => ?_)
  obtain ⟨rfl, fo1, j1, ha1⟩ := hq
  obtain ⟨fi, re, rc, rs, so, ot, cn, la, hy1⟩ := j1.yo
  refine lv_istore (lv' := [(5, .int ((xs_front S Wo.2.1 s1).1)), (4, .int (nI i)), (3, .ref ou), (2, .ref y), (1, .ref x), (0, .ref b)]) hx hb dL_law_976 hl (by decide) rfl (fun ls hl => ?_)
  refine lv_aload_n hx hb dL_law_978 rfl (lv_at hl 3 rfl) ?_
  refine lv_aload_n hx hb dL_law_979 rfl (lv_at hl 5 rfl) ?_
  refine lv_iload hx hb dL_law_980 (lv_at hl 1 rfl) ?_
  refine lv_iconst (v := nI 1) hx hb dL_law_982 (by decide) ?_
  refine q_iaddN hx hb dL_law_983 ?_
  refine va_sld hx hb hX hbl0 hbA hS (nI_in (by omega) (by omega)) dL_law_984 ?_
  rw [← es1]
  refine q_callV (rest := []) C (wl_front l D cy N0 hh1 x y ou fo1 gr n S Wo s1 j1 hp hn) kX8_front g1389 g1390 rfl g1391 g4 hP hS hy1 (by first | decide | omega) hl.1 rfl (by decide) (by first | decide | omega) dL_law_985 (fun q ce E h' H1 locs1 hE => hE.elim) (fun v hh2 H locs hq hP hS => ?_)
  obtain ⟨rfl, W2, j2, p2, hcd, hw2⟩ := hq
  have hb2 : W2.2.1 = (Wo).2.1 := congrArg Prod.fst hw2
  obtain ⟨fi2, re2, rc2, rs2, so2, ot2, cn2, la2, hy2⟩ := j2.yo
  refine lv_lstore (lv' := [(6, .long ((xs_front S Wo.2.1 s1).2)), (5, .int ((xs_front S Wo.2.1 s1).1)), (4, .int (nI i)), (3, .ref ou), (2, .ref y), (1, .ref x), (0, .ref b)]) hx hb dL_law_988 hl (by decide) rfl (fun ls hl => ?_)
  refine lv_aload_n hx hb dL_law_990 rfl (lv_at hl 4 rfl) ?_
  refine q_callV (rest := []) C (c_X8_thrown l D cy N0 hh2 y W2.1.1 W2.1.2.1 W2.1.2.2.1 W2.1.2.2.2.1 W2.1.2.2.2.2.1 fi2 re2 rc2 rs2 so2 ot2 cn2 la2 W2.1.2.2.2.2.2.1 W2.1.2.2.2.2.2.2.1 W2.1.2.2.2.2.2.2.2.1 W2.1.2.2.2.2.2.2.2.2.1 W2.1.2.2.2.2.2.2.2.2.2.1 W2.1.2.2.2.2.2.2.2.2.2.2.1 W2.1.2.2.2.2.2.2.2.2.2.2.2.1 (nI W2.2.1.1) (nI W2.2.2.1) W2.1.2.2.2.2.2.2.2.2.2.2.2.2 hy2) kX8_thrown g1238 g1239 rfl g1240 g4 hP hS hy2 (by first | decide | omega) hl.1 rfl (by decide) (by first | decide | omega) dL_law_991 (fun q ce E h' H1 locs1 hE => hE.elim) (fun v hh3 H locs hq hP hS => ?_)
  obtain ⟨rfl, rfl⟩ := hq
  rw [hcd]
  refine lv_iload hx hb dL_law_994 (lv_at hl 1 rfl) ?_
  refine lv_icmp_eq (tgt := 1001) hx hb dL_law_996 (by decide) (fun _ => ?_) (fun c9 => absurd rfl c9)
  refine lv_iload hx hb dL_law_1001 (lv_at hl 1 rfl) ?_
  refine lv_if_ne (tgt := 1017) hx hb dL_law_1003 (by decide) (fun _ => ?_) (fun hk0 => ?_)
  · refine lv_goto (tgt := 2940) hx hb dL_law_1017 (by decide) ?_
    exact kend ls H locs _ _ _ fo1 _ W2 j2 p2 (by rw [hb2]; omega) (by rw [hb2]; omega) hP hS (lv_sub hl [2, 3, 4, 5, 6] rfl)
  · refine lv_aload_n hx hb dL_law_1006 rfl (lv_at hl 3 rfl) ?_
    refine lv_iconst (v := nI 0) hx hb dL_law_1007 (by decide) ?_
    refine q_laldN C hP j2.ouf (by omega) (by omega) dL_law_1008 ?_
    refine lv_lload hx hb dL_law_1009 (lv_at hl 0 rfl) ?_
    refine W.lcmp hx hb dL_law_1011 ?_
    refine lv_if_eq (tgt := 1017) hx hb dL_law_1012 (by decide) (fun _ => ?_) (fun c9 => absurd ((lg_cmp_eq _ _).mpr (ha1 hk0)) c9)
    refine lv_goto (tgt := 2940) hx hb dL_law_1017 (by decide) ?_
    exact kend ls H locs _ _ _ fo1 _ W2 j2 p2 (by rw [hb2]; omega) (by rw [hb2]; omega) hP hS (lv_sub hl [2, 3, 4, 5, 6] rfl)
theorem dL_law_1020 : decode cL_law 1020 = .ok (.aload_n 1, 1) := by decide +kernel
theorem dL_law_1021 : decode cL_law 1021 = .ok (.aload_n 0, 1) := by decide +kernel
theorem dL_law_1022 : decode cL_law 1022 = .ok (.iload 4, 2) := by decide +kernel
theorem dL_law_1024 : decode cL_law 1024 = .ok (.iconst 1, 1) := by decide +kernel
theorem dL_law_1025 : decode cL_law 1025 = .ok (.iadd, 1) := by decide +kernel
theorem dL_law_1026 : decode cL_law 1026 = .ok (.iaload, 1) := by decide +kernel
theorem dL_law_1027 : decode cL_law 1027 = .ok (.aload_n 0, 1) := by decide +kernel
theorem dL_law_1028 : decode cL_law 1028 = .ok (.iload 4, 2) := by decide +kernel
theorem dL_law_1030 : decode cL_law 1030 = .ok (.iconst 2, 1) := by decide +kernel
theorem dL_law_1031 : decode cL_law 1031 = .ok (.iadd, 1) := by decide +kernel
theorem dL_law_1032 : decode cL_law 1032 = .ok (.iaload, 1) := by decide +kernel
theorem dL_law_1033 : decode cL_law 1033 = .ok (.aload_n 0, 1) := by decide +kernel
theorem dL_law_1034 : decode cL_law 1034 = .ok (.iload 4, 2) := by decide +kernel
theorem dL_law_1036 : decode cL_law 1036 = .ok (.iconst 3, 1) := by decide +kernel
theorem dL_law_1037 : decode cL_law 1037 = .ok (.iadd, 1) := by decide +kernel
theorem dL_law_1038 : decode cL_law 1038 = .ok (.iaload, 1) := by decide +kernel
theorem dL_law_1039 : decode cL_law 1039 = .ok (.i2l, 1) := by decide +kernel
theorem dL_law_1040 : decode cL_law 1040 = .ok (.bipush 32, 2) := by decide +kernel
theorem dL_law_1042 : decode cL_law 1042 = .ok (.lshl, 1) := by decide +kernel
theorem dL_law_1043 : decode cL_law 1043 = .ok (.aload_n 0, 1) := by decide +kernel
theorem dL_law_1044 : decode cL_law 1044 = .ok (.iload 4, 2) := by decide +kernel
theorem dL_law_1046 : decode cL_law 1046 = .ok (.iconst 4, 1) := by decide +kernel
theorem dL_law_1047 : decode cL_law 1047 = .ok (.iadd, 1) := by decide +kernel
theorem dL_law_1048 : decode cL_law 1048 = .ok (.iaload, 1) := by decide +kernel
theorem dL_law_1049 : decode cL_law 1049 = .ok (.i2l, 1) := by decide +kernel
theorem dL_law_1050 : decode cL_law 1050 = .ok (.ldc2_w 161, 3) := by decide +kernel
theorem dL_law_1053 : decode cL_law 1053 = .ok (.land, 1) := by decide +kernel
theorem dL_law_1054 : decode cL_law 1054 = .ok (.lor, 1) := by decide +kernel
theorem dL_law_1055 : decode cL_law 1055 = .ok (.aload_n 0, 1) := by decide +kernel
theorem dL_law_1056 : decode cL_law 1056 = .ok (.iload 4, 2) := by decide +kernel
theorem dL_law_1058 : decode cL_law 1058 = .ok (.iconst 5, 1) := by decide +kernel
theorem dL_law_1059 : decode cL_law 1059 = .ok (.iadd, 1) := by decide +kernel
theorem dL_law_1060 : decode cL_law 1060 = .ok (.iaload, 1) := by decide +kernel
theorem dL_law_1061 : decode cL_law 1061 = .ok (.i2l, 1) := by decide +kernel
theorem dL_law_1062 : decode cL_law 1062 = .ok (.bipush 32, 2) := by decide +kernel
theorem dL_law_1064 : decode cL_law 1064 = .ok (.lshl, 1) := by decide +kernel
theorem dL_law_1065 : decode cL_law 1065 = .ok (.aload_n 0, 1) := by decide +kernel
theorem dL_law_1066 : decode cL_law 1066 = .ok (.iload 4, 2) := by decide +kernel
theorem dL_law_1068 : decode cL_law 1068 = .ok (.bipush 6, 2) := by decide +kernel
theorem dL_law_1070 : decode cL_law 1070 = .ok (.iadd, 1) := by decide +kernel
theorem dL_law_1071 : decode cL_law 1071 = .ok (.iaload, 1) := by decide +kernel
theorem dL_law_1072 : decode cL_law 1072 = .ok (.i2l, 1) := by decide +kernel
theorem dL_law_1073 : decode cL_law 1073 = .ok (.ldc2_w 161, 3) := by decide +kernel
theorem dL_law_1076 : decode cL_law 1076 = .ok (.land, 1) := by decide +kernel
theorem dL_law_1077 : decode cL_law 1077 = .ok (.lor, 1) := by decide +kernel
theorem dL_law_1078 : decode cL_law 1078 = .ok (.aload_n 3, 1) := by decide +kernel
theorem dL_law_1079 : decode cL_law 1079 = .ok (.invokestatic 189, 3) := by decide +kernel
theorem dL_law_1082 : decode cL_law 1082 = .ok (.istore 5, 2) := by decide +kernel
theorem dL_law_1084 : decode cL_law 1084 = .ok (.aload_n 2, 1) := by decide +kernel
theorem dL_law_1085 : decode cL_law 1085 = .ok (.aload_n 0, 1) := by decide +kernel
theorem dL_law_1086 : decode cL_law 1086 = .ok (.iload 4, 2) := by decide +kernel
theorem dL_law_1088 : decode cL_law 1088 = .ok (.iconst 1, 1) := by decide +kernel
theorem dL_law_1089 : decode cL_law 1089 = .ok (.iadd, 1) := by decide +kernel
theorem dL_law_1090 : decode cL_law 1090 = .ok (.iaload, 1) := by decide +kernel
theorem dL_law_1091 : decode cL_law 1091 = .ok (.aload_n 0, 1) := by decide +kernel
theorem dL_law_1092 : decode cL_law 1092 = .ok (.iload 4, 2) := by decide +kernel
theorem dL_law_1094 : decode cL_law 1094 = .ok (.iconst 2, 1) := by decide +kernel
theorem dL_law_1095 : decode cL_law 1095 = .ok (.iadd, 1) := by decide +kernel
theorem dL_law_1096 : decode cL_law 1096 = .ok (.iaload, 1) := by decide +kernel
theorem dL_law_1097 : decode cL_law 1097 = .ok (.aload_n 0, 1) := by decide +kernel
theorem dL_law_1098 : decode cL_law 1098 = .ok (.iload 4, 2) := by decide +kernel
theorem dL_law_1100 : decode cL_law 1100 = .ok (.iconst 3, 1) := by decide +kernel
theorem dL_law_1101 : decode cL_law 1101 = .ok (.iadd, 1) := by decide +kernel
theorem dL_law_1102 : decode cL_law 1102 = .ok (.iaload, 1) := by decide +kernel
theorem dL_law_1103 : decode cL_law 1103 = .ok (.i2l, 1) := by decide +kernel
theorem dL_law_1104 : decode cL_law 1104 = .ok (.bipush 32, 2) := by decide +kernel
theorem dL_law_1106 : decode cL_law 1106 = .ok (.lshl, 1) := by decide +kernel
theorem dL_law_1107 : decode cL_law 1107 = .ok (.aload_n 0, 1) := by decide +kernel
theorem dL_law_1108 : decode cL_law 1108 = .ok (.iload 4, 2) := by decide +kernel
theorem dL_law_1110 : decode cL_law 1110 = .ok (.iconst 4, 1) := by decide +kernel
theorem dL_law_1111 : decode cL_law 1111 = .ok (.iadd, 1) := by decide +kernel
theorem dL_law_1112 : decode cL_law 1112 = .ok (.iaload, 1) := by decide +kernel
theorem dL_law_1113 : decode cL_law 1113 = .ok (.i2l, 1) := by decide +kernel
theorem dL_law_1114 : decode cL_law 1114 = .ok (.ldc2_w 161, 3) := by decide +kernel
theorem dL_law_1117 : decode cL_law 1117 = .ok (.land, 1) := by decide +kernel
theorem dL_law_1118 : decode cL_law 1118 = .ok (.lor, 1) := by decide +kernel
theorem dL_law_1119 : decode cL_law 1119 = .ok (.aload_n 0, 1) := by decide +kernel
theorem dL_law_1120 : decode cL_law 1120 = .ok (.iload 4, 2) := by decide +kernel
theorem dL_law_1122 : decode cL_law 1122 = .ok (.iconst 5, 1) := by decide +kernel
theorem dL_law_1123 : decode cL_law 1123 = .ok (.iadd, 1) := by decide +kernel
theorem dL_law_1124 : decode cL_law 1124 = .ok (.iaload, 1) := by decide +kernel
theorem dL_law_1125 : decode cL_law 1125 = .ok (.i2l, 1) := by decide +kernel
theorem dL_law_1126 : decode cL_law 1126 = .ok (.bipush 32, 2) := by decide +kernel
theorem dL_law_1128 : decode cL_law 1128 = .ok (.lshl, 1) := by decide +kernel
theorem dL_law_1129 : decode cL_law 1129 = .ok (.aload_n 0, 1) := by decide +kernel
theorem dL_law_1130 : decode cL_law 1130 = .ok (.iload 4, 2) := by decide +kernel
theorem dL_law_1132 : decode cL_law 1132 = .ok (.bipush 6, 2) := by decide +kernel
theorem dL_law_1134 : decode cL_law 1134 = .ok (.iadd, 1) := by decide +kernel
theorem dL_law_1135 : decode cL_law 1135 = .ok (.iaload, 1) := by decide +kernel
theorem dL_law_1136 : decode cL_law 1136 = .ok (.i2l, 1) := by decide +kernel
theorem dL_law_1137 : decode cL_law 1137 = .ok (.ldc2_w 161, 3) := by decide +kernel
theorem dL_law_1140 : decode cL_law 1140 = .ok (.land, 1) := by decide +kernel
theorem dL_law_1141 : decode cL_law 1141 = .ok (.lor, 1) := by decide +kernel
theorem dL_law_1142 : decode cL_law 1142 = .ok (.invokevirtual 192, 3) := by decide +kernel
theorem dL_law_1145 : decode cL_law 1145 = .ok (.istore 6, 2) := by decide +kernel
theorem dL_law_1147 : decode cL_law 1147 = .ok (.aload_n 2, 1) := by decide +kernel
theorem dL_law_1148 : decode cL_law 1148 = .ok (.invokevirtual 147, 3) := by decide +kernel
theorem dL_law_1151 : decode cL_law 1151 = .ok (.iload 5, 2) := by decide +kernel
theorem dL_law_1153 : decode cL_law 1153 = .ok (.if_icmp .eq 5, 3) := by decide +kernel
theorem dL_law_1158 : decode cL_law 1158 = .ok (.iload 5, 2) := by decide +kernel
theorem dL_law_1160 : decode cL_law 1160 = .ok (.ifCond .ne 15, 3) := by decide +kernel
theorem dL_law_1163 : decode cL_law 1163 = .ok (.aload_n 3, 1) := by decide +kernel
theorem dL_law_1164 : decode cL_law 1164 = .ok (.iconst 0, 1) := by decide +kernel
theorem dL_law_1165 : decode cL_law 1165 = .ok (.laload, 1) := by decide +kernel
theorem dL_law_1166 : decode cL_law 1166 = .ok (.iload 6, 2) := by decide +kernel
theorem dL_law_1168 : decode cL_law 1168 = .ok (.i2l, 1) := by decide +kernel
theorem dL_law_1169 : decode cL_law 1169 = .ok (.lcmp, 1) := by decide +kernel
theorem dL_law_1170 : decode cL_law 1170 = .ok (.ifCond .eq 5, 3) := by decide +kernel
theorem dL_law_1175 : decode cL_law 1175 = .ok (.goto 1765, 3) := by decide +kernel
set_option maxRecDepth 100000 in
set_option maxHeartbeats 4000000 in
theorem lc_put {p : Program} {l : Launch} {e : Env} {mc ms : Nat} {s : State} {m : MethodId} {below : List Frame} {meth : Method} {c : Code} {H : Heap} {locs : List Loc} {cells slots : Nat} {Q : State → Prop} {rt0 : Option FieldType} {nm0 : String} {D : va_G} {cy : Nat → ClassId} {N0 : Nat} {tb : List ExceptionTableEntry} {h : qH} {ls : Array Slot} {b L : Nat} {xs : Nat → Int32} {x y ou : Nat} {fo : Nat → Int64} {gr : Int32} {n i C1 C2 : Nat} {S : Nat → qSlot} {Wo : qWo} (C : qX p l s m #[Value.ref b] meth c RL cL_law 8 rt0 nm0 D cy N0 tb) (hX : va_X b L xs s s.heap) (hbl0 : b < s.heap.size) (hbA : ¬ qA N0 b) (hP : qP D N0 h H) (hS : va_S (qA N0) s.heap H locs) (hi : i + 7 ≤ L) (hL : L ≤ 449) (hn : n < 64) (j : JZ cy h x y ou fo gr n S Wo S Wo) (hp : PI gr n S Wo) (hc1 : cells ≤ C1 + t1 n + Wo.2.1.1 + qP1 Wo.2.1) (hc2 : slots ≤ C2 + t2 n + 10 * Wo.2.1.1 + qP2 Wo.2.1) (hmc : C1 + 530000 ≤ mc) (hms : C2 + 5520000 ≤ ms) (hl : lv_has ls 8 [(4, .int (nI i)), (3, .ref ou), (2, .ref y), (1, .ref x), (0, .ref b)]) (kend : ∀ (ls : Array Slot) (H : Heap) (locs : List Loc) (c1 c2 : Nat) (h : qH) (fo : Nat → Int64) (S : Nat → qSlot) (Wo : qWo), JZ cy h x y ou fo gr (n + 1) S Wo S Wo → PI gr (n + 1) S Wo → c1 ≤ C1 + t1 (n + 1) + Wo.2.1.1 + qP1 Wo.2.1 → c2 ≤ C2 + t2 (n + 1) + 10 * Wo.2.1.1 + qP2 Wo.2.1 → qP D N0 h H → va_S (qA N0) s.heap H locs → lv_has ls 8 [(4, .int (nI i)), (3, .ref ou), (2, .ref y), (1, .ref x), (0, .ref b)] → W p l e (qR 2048 84000 mc ms) s m #[Value.ref b] below meth c H locs c1 c2 Q (F0 m 2940 ls [])) : W p l e (qR 2048 84000 mc ms) s m #[Value.ref b] below meth c H locs cells slots Q (F0 m 1020 ls []) := by
  have hx := C.1
  have hb := C.2.1
  have h1L := t1_le (n + 1) (by omega)
  have h2L := t2_le (n + 1) (by omega)
  have e1L : t1 (n + 1) = t1 n + (1201 + 212 * n) := rfl
  have e2L : t2 (n + 1) = t2 n + (13300 + n * rMs n 7) := rfl
  have hb0 := hp.bnd (by omega)
  refine lv_aload_n hx hb dL_law_1020 rfl (lv_at hl 3 rfl) ?_
  refine lv_aload_n hx hb dL_law_1021 rfl (lv_at hl 4 rfl) ?_
  refine lv_iload hx hb dL_law_1022 (lv_at hl 0 rfl) ?_
  refine lv_iconst (v := nI 1) hx hb dL_law_1024 (by decide) ?_
  refine q_iaddN hx hb dL_law_1025 ?_
  refine va_sld hx hb hX hbl0 hbA hS (nI_in (by omega) (by omega)) dL_law_1026 ?_
  refine lv_topi (fun s1 es1 => ?_)
  refine lv_aload_n hx hb dL_law_1027 rfl (lv_at hl 4 rfl) ?_
  refine lv_iload hx hb dL_law_1028 (lv_at hl 0 rfl) ?_
  refine lv_iconst (v := nI 2) hx hb dL_law_1030 (by decide) ?_
  refine q_iaddN hx hb dL_law_1031 ?_
  refine va_sld hx hb hX hbl0 hbA hS (nI_in (by omega) (by omega)) dL_law_1032 ?_
  refine lv_topi (fun s2 es2 => ?_)
  refine lv_aload_n hx hb dL_law_1033 rfl (lv_at hl 4 rfl) ?_
  refine lv_iload hx hb dL_law_1034 (lv_at hl 0 rfl) ?_
  refine lv_iconst (v := nI 3) hx hb dL_law_1036 (by decide) ?_
  refine q_iaddN hx hb dL_law_1037 ?_
  refine va_sld hx hb hX hbl0 hbA hS (nI_in (by omega) (by omega)) dL_law_1038 ?_
  refine lv_topi (fun s3 es3 => ?_)
  refine lv_i2l hx hb dL_law_1039 rfl ?_
  refine lv_bipush (v := nI 32) hx hb dL_law_1040 (by decide) ?_
  refine lv_lshl hx hb dL_law_1042 rfl ?_
  refine lv_aload_n hx hb dL_law_1043 rfl (lv_at hl 4 rfl) ?_
  refine lv_iload hx hb dL_law_1044 (lv_at hl 0 rfl) ?_
  refine lv_iconst (v := nI 4) hx hb dL_law_1046 (by decide) ?_
  refine q_iaddN hx hb dL_law_1047 ?_
  refine va_sld hx hb hX hbl0 hbA hS (nI_in (by omega) (by omega)) dL_law_1048 ?_
  refine lv_topi (fun s4 es4 => ?_)
  refine lv_i2l hx hb dL_law_1049 rfl ?_
  refine lv_ldc2 hx hb C.2.2.2.2.1 (C.2.2.2.2.2.1 _ g1484) dL_law_1050 ?_
  refine lv_land hx hb dL_law_1053 ?_
  refine lv_lor hx hb dL_law_1054 ?_
  refine lv_topl (fun q3 eq3 => ?_)
  refine lv_aload_n hx hb dL_law_1055 rfl (lv_at hl 4 rfl) ?_
  refine lv_iload hx hb dL_law_1056 (lv_at hl 0 rfl) ?_
  refine lv_iconst (v := nI 5) hx hb dL_law_1058 (by decide) ?_
  refine q_iaddN hx hb dL_law_1059 ?_
  refine va_sld hx hb hX hbl0 hbA hS (nI_in (by omega) (by omega)) dL_law_1060 ?_
  refine lv_topi (fun s5 es5 => ?_)
  refine lv_i2l hx hb dL_law_1061 rfl ?_
  refine lv_bipush (v := nI 32) hx hb dL_law_1062 (by decide) ?_
  refine lv_lshl hx hb dL_law_1064 rfl ?_
  refine lv_aload_n hx hb dL_law_1065 rfl (lv_at hl 4 rfl) ?_
  refine lv_iload hx hb dL_law_1066 (lv_at hl 0 rfl) ?_
  refine lv_bipush (v := nI 6) hx hb dL_law_1068 (by decide) ?_
  refine q_iaddN hx hb dL_law_1070 ?_
  refine va_sld hx hb hX hbl0 hbA hS (nI_in (by omega) (by omega)) dL_law_1071 ?_
  refine lv_topi (fun s6 es6 => ?_)
  refine lv_i2l hx hb dL_law_1072 rfl ?_
  refine lv_ldc2 hx hb C.2.2.2.2.1 (C.2.2.2.2.2.1 _ g1484) dL_law_1073 ?_
  refine lv_land hx hb dL_law_1076 ?_
  refine lv_lor hx hb dL_law_1077 ?_
  refine lv_topl (fun q5 eq5 => ?_)
  refine lv_aload_n hx hb dL_law_1078 rfl (lv_at hl 1 rfl) ?_
  have hpK : PI gr (n + 1) ((xs_put gr S s1 s2 q3 q5).2.1) (Wo) := hp.putc
  have hbK := hpK.bnd (by omega)
  have hmo : MO Wo (Wo) := MO.rf
  have hqm := qP1_mo hmo hb0.2.2.2
  have hm1 := hmo.1
  refine q_callSW (rest := []) C (zl_put l D cy N0 h x y ou fo gr n S Wo s1 s2 q3 q5 j hp hn) kwL_put g749 g750 hP hS (by omega) hl.1 rfl (by decide) (by omega) dL_law_1079 (fun v hh1 H locs hq hP hS => ?_)
  obtain ⟨rfl, fo1, j1, ha1⟩ := hq
  obtain ⟨fi, re, rc, rs, so, ot, cn, la, hy1⟩ := j1.yo
  refine lv_istore (lv' := [(5, .int ((xs_put gr S s1 s2 q3 q5).1)), (4, .int (nI i)), (3, .ref ou), (2, .ref y), (1, .ref x), (0, .ref b)]) hx hb dL_law_1082 hl (by decide) rfl (fun ls hl => ?_)
  refine lv_aload_n hx hb dL_law_1084 rfl (lv_at hl 3 rfl) ?_
  refine lv_aload_n hx hb dL_law_1085 rfl (lv_at hl 5 rfl) ?_
  refine lv_iload hx hb dL_law_1086 (lv_at hl 1 rfl) ?_
  refine lv_iconst (v := nI 1) hx hb dL_law_1088 (by decide) ?_
  refine q_iaddN hx hb dL_law_1089 ?_
  refine va_sld hx hb hX hbl0 hbA hS (nI_in (by omega) (by omega)) dL_law_1090 ?_
  rw [← es1]
  refine lv_aload_n hx hb dL_law_1091 rfl (lv_at hl 5 rfl) ?_
  refine lv_iload hx hb dL_law_1092 (lv_at hl 1 rfl) ?_
  refine lv_iconst (v := nI 2) hx hb dL_law_1094 (by decide) ?_
  refine q_iaddN hx hb dL_law_1095 ?_
  refine va_sld hx hb hX hbl0 hbA hS (nI_in (by omega) (by omega)) dL_law_1096 ?_
  rw [← es2]
  refine lv_aload_n hx hb dL_law_1097 rfl (lv_at hl 5 rfl) ?_
  refine lv_iload hx hb dL_law_1098 (lv_at hl 1 rfl) ?_
  refine lv_iconst (v := nI 3) hx hb dL_law_1100 (by decide) ?_
  refine q_iaddN hx hb dL_law_1101 ?_
  refine va_sld hx hb hX hbl0 hbA hS (nI_in (by omega) (by omega)) dL_law_1102 ?_
  rw [← es3]
  refine lv_i2l hx hb dL_law_1103 rfl ?_
  refine lv_bipush (v := nI 32) hx hb dL_law_1104 (by decide) ?_
  refine lv_lshl hx hb dL_law_1106 rfl ?_
  refine lv_aload_n hx hb dL_law_1107 rfl (lv_at hl 5 rfl) ?_
  refine lv_iload hx hb dL_law_1108 (lv_at hl 1 rfl) ?_
  refine lv_iconst (v := nI 4) hx hb dL_law_1110 (by decide) ?_
  refine q_iaddN hx hb dL_law_1111 ?_
  refine va_sld hx hb hX hbl0 hbA hS (nI_in (by omega) (by omega)) dL_law_1112 ?_
  rw [← es4]
  refine lv_i2l hx hb dL_law_1113 rfl ?_
  refine lv_ldc2 hx hb C.2.2.2.2.1 (C.2.2.2.2.2.1 _ g1484) dL_law_1114 ?_
  refine lv_land hx hb dL_law_1117 ?_
  refine lv_lor hx hb dL_law_1118 ?_
  rw [← eq3]
  refine lv_aload_n hx hb dL_law_1119 rfl (lv_at hl 5 rfl) ?_
  refine lv_iload hx hb dL_law_1120 (lv_at hl 1 rfl) ?_
  refine lv_iconst (v := nI 5) hx hb dL_law_1122 (by decide) ?_
  refine q_iaddN hx hb dL_law_1123 ?_
  refine va_sld hx hb hX hbl0 hbA hS (nI_in (by omega) (by omega)) dL_law_1124 ?_
  rw [← es5]
  refine lv_i2l hx hb dL_law_1125 rfl ?_
  refine lv_bipush (v := nI 32) hx hb dL_law_1126 (by decide) ?_
  refine lv_lshl hx hb dL_law_1128 rfl ?_
  refine lv_aload_n hx hb dL_law_1129 rfl (lv_at hl 5 rfl) ?_
  refine lv_iload hx hb dL_law_1130 (lv_at hl 1 rfl) ?_
  refine lv_bipush (v := nI 6) hx hb dL_law_1132 (by decide) ?_
  refine q_iaddN hx hb dL_law_1134 ?_
  refine va_sld hx hb hX hbl0 hbA hS (nI_in (by omega) (by omega)) dL_law_1135 ?_
  rw [← es6]
  refine lv_i2l hx hb dL_law_1136 rfl ?_
  refine lv_ldc2 hx hb C.2.2.2.2.1 (C.2.2.2.2.2.1 _ g1484) dL_law_1137 ?_
  refine lv_land hx hb dL_law_1140 ?_
  refine lv_lor hx hb dL_law_1141 ?_
  rw [← eq5]
  refine q_callV (rest := []) C (wl_put l D cy N0 hh1 x y ou fo1 gr n S Wo s1 s2 q3 q5 j1 hp hn) kX8_put_ g1393 g1394 rfl g1395 g4 hP hS hy1 (by first | decide | omega) hl.1 rfl (by decide) (by first | decide | omega) dL_law_1142 (fun q ce E h' H1 locs1 hE => hE.elim) (fun v hh2 H locs hq hP hS => ?_)
  obtain ⟨rfl, W2, j2, p2, hcd, hw2⟩ := hq
  have hb2 : W2.2.1 = (Wo).2.1 := congrArg Prod.fst hw2
  obtain ⟨fi2, re2, rc2, rs2, so2, ot2, cn2, la2, hy2⟩ := j2.yo
  refine lv_istore (lv' := [(6, .int ((xs_put gr S s1 s2 q3 q5).2.2)), (5, .int ((xs_put gr S s1 s2 q3 q5).1)), (4, .int (nI i)), (3, .ref ou), (2, .ref y), (1, .ref x), (0, .ref b)]) hx hb dL_law_1145 hl (by decide) rfl (fun ls hl => ?_)
  refine lv_aload_n hx hb dL_law_1147 rfl (lv_at hl 4 rfl) ?_
  refine q_callV (rest := []) C (c_X8_thrown l D cy N0 hh2 y W2.1.1 W2.1.2.1 W2.1.2.2.1 W2.1.2.2.2.1 W2.1.2.2.2.2.1 fi2 re2 rc2 rs2 so2 ot2 cn2 la2 W2.1.2.2.2.2.2.1 W2.1.2.2.2.2.2.2.1 W2.1.2.2.2.2.2.2.2.1 W2.1.2.2.2.2.2.2.2.2.1 W2.1.2.2.2.2.2.2.2.2.2.1 W2.1.2.2.2.2.2.2.2.2.2.2.1 W2.1.2.2.2.2.2.2.2.2.2.2.2.1 (nI W2.2.1.1) (nI W2.2.2.1) W2.1.2.2.2.2.2.2.2.2.2.2.2.2 hy2) kX8_thrown g1238 g1239 rfl g1240 g4 hP hS hy2 (by first | decide | omega) hl.1 rfl (by decide) (by first | decide | omega) dL_law_1148 (fun q ce E h' H1 locs1 hE => hE.elim) (fun v hh3 H locs hq hP hS => ?_)
  obtain ⟨rfl, rfl⟩ := hq
  rw [hcd]
  refine lv_iload hx hb dL_law_1151 (lv_at hl 1 rfl) ?_
  refine lv_icmp_eq (tgt := 1158) hx hb dL_law_1153 (by decide) (fun _ => ?_) (fun c9 => absurd rfl c9)
  refine lv_iload hx hb dL_law_1158 (lv_at hl 1 rfl) ?_
  refine lv_if_ne (tgt := 1175) hx hb dL_law_1160 (by decide) (fun _ => ?_) (fun hk0 => ?_)
  · refine lv_goto (tgt := 2940) hx hb dL_law_1175 (by decide) ?_
    exact kend ls H locs _ _ _ fo1 _ W2 j2 p2 (by rw [hb2]; omega) (by rw [hb2]; omega) hP hS (lv_sub hl [2, 3, 4, 5, 6] rfl)
  · refine lv_aload_n hx hb dL_law_1163 rfl (lv_at hl 3 rfl) ?_
    refine lv_iconst (v := nI 0) hx hb dL_law_1164 (by decide) ?_
    refine q_laldN C hP j2.ouf (by omega) (by omega) dL_law_1165 ?_
    refine lv_iload hx hb dL_law_1166 (lv_at hl 0 rfl) ?_
    refine lv_i2l hx hb dL_law_1168 rfl ?_
    refine W.lcmp hx hb dL_law_1169 ?_
    refine lv_if_eq (tgt := 1175) hx hb dL_law_1170 (by decide) (fun _ => ?_) (fun c9 => absurd ((lg_cmp_eq _ _).mpr (ha1 hk0)) c9)
    refine lv_goto (tgt := 2940) hx hb dL_law_1175 (by decide) ?_
    exact kend ls H locs _ _ _ fo1 _ W2 j2 p2 (by rw [hb2]; omega) (by rw [hb2]; omega) hP hS (lv_sub hl [2, 3, 4, 5, 6] rfl)
theorem dL_law_1178 : decode cL_law 1178 = .ok (.aload_n 1, 1) := by decide +kernel
theorem dL_law_1179 : decode cL_law 1179 = .ok (.aload_n 0, 1) := by decide +kernel
theorem dL_law_1180 : decode cL_law 1180 = .ok (.iload 4, 2) := by decide +kernel
theorem dL_law_1182 : decode cL_law 1182 = .ok (.iconst 1, 1) := by decide +kernel
theorem dL_law_1183 : decode cL_law 1183 = .ok (.iadd, 1) := by decide +kernel
theorem dL_law_1184 : decode cL_law 1184 = .ok (.iaload, 1) := by decide +kernel
theorem dL_law_1185 : decode cL_law 1185 = .ok (.aload_n 0, 1) := by decide +kernel
theorem dL_law_1186 : decode cL_law 1186 = .ok (.iload 4, 2) := by decide +kernel
theorem dL_law_1188 : decode cL_law 1188 = .ok (.iconst 2, 1) := by decide +kernel
theorem dL_law_1189 : decode cL_law 1189 = .ok (.iadd, 1) := by decide +kernel
theorem dL_law_1190 : decode cL_law 1190 = .ok (.iaload, 1) := by decide +kernel
theorem dL_law_1191 : decode cL_law 1191 = .ok (.i2l, 1) := by decide +kernel
theorem dL_law_1192 : decode cL_law 1192 = .ok (.bipush 32, 2) := by decide +kernel
theorem dL_law_1194 : decode cL_law 1194 = .ok (.lshl, 1) := by decide +kernel
theorem dL_law_1195 : decode cL_law 1195 = .ok (.aload_n 0, 1) := by decide +kernel
theorem dL_law_1196 : decode cL_law 1196 = .ok (.iload 4, 2) := by decide +kernel
theorem dL_law_1198 : decode cL_law 1198 = .ok (.iconst 3, 1) := by decide +kernel
theorem dL_law_1199 : decode cL_law 1199 = .ok (.iadd, 1) := by decide +kernel
theorem dL_law_1200 : decode cL_law 1200 = .ok (.iaload, 1) := by decide +kernel
theorem dL_law_1201 : decode cL_law 1201 = .ok (.i2l, 1) := by decide +kernel
theorem dL_law_1202 : decode cL_law 1202 = .ok (.ldc2_w 161, 3) := by decide +kernel
theorem dL_law_1205 : decode cL_law 1205 = .ok (.land, 1) := by decide +kernel
theorem dL_law_1206 : decode cL_law 1206 = .ok (.lor, 1) := by decide +kernel
theorem dL_law_1207 : decode cL_law 1207 = .ok (.aload_n 3, 1) := by decide +kernel
theorem dL_law_1208 : decode cL_law 1208 = .ok (.invokestatic 193, 3) := by decide +kernel
theorem dL_law_1211 : decode cL_law 1211 = .ok (.istore 5, 2) := by decide +kernel
theorem dL_law_1213 : decode cL_law 1213 = .ok (.aload_n 2, 1) := by decide +kernel
theorem dL_law_1214 : decode cL_law 1214 = .ok (.aload_n 0, 1) := by decide +kernel
theorem dL_law_1215 : decode cL_law 1215 = .ok (.iload 4, 2) := by decide +kernel
theorem dL_law_1217 : decode cL_law 1217 = .ok (.iconst 1, 1) := by decide +kernel
theorem dL_law_1218 : decode cL_law 1218 = .ok (.iadd, 1) := by decide +kernel
theorem dL_law_1219 : decode cL_law 1219 = .ok (.iaload, 1) := by decide +kernel
theorem dL_law_1220 : decode cL_law 1220 = .ok (.aload_n 0, 1) := by decide +kernel
theorem dL_law_1221 : decode cL_law 1221 = .ok (.iload 4, 2) := by decide +kernel
theorem dL_law_1223 : decode cL_law 1223 = .ok (.iconst 2, 1) := by decide +kernel
theorem dL_law_1224 : decode cL_law 1224 = .ok (.iadd, 1) := by decide +kernel
theorem dL_law_1225 : decode cL_law 1225 = .ok (.iaload, 1) := by decide +kernel
theorem dL_law_1226 : decode cL_law 1226 = .ok (.i2l, 1) := by decide +kernel
theorem dL_law_1227 : decode cL_law 1227 = .ok (.bipush 32, 2) := by decide +kernel
theorem dL_law_1229 : decode cL_law 1229 = .ok (.lshl, 1) := by decide +kernel
theorem dL_law_1230 : decode cL_law 1230 = .ok (.aload_n 0, 1) := by decide +kernel
theorem dL_law_1231 : decode cL_law 1231 = .ok (.iload 4, 2) := by decide +kernel
theorem dL_law_1233 : decode cL_law 1233 = .ok (.iconst 3, 1) := by decide +kernel
theorem dL_law_1234 : decode cL_law 1234 = .ok (.iadd, 1) := by decide +kernel
theorem dL_law_1235 : decode cL_law 1235 = .ok (.iaload, 1) := by decide +kernel
theorem dL_law_1236 : decode cL_law 1236 = .ok (.i2l, 1) := by decide +kernel
theorem dL_law_1237 : decode cL_law 1237 = .ok (.ldc2_w 161, 3) := by decide +kernel
theorem dL_law_1240 : decode cL_law 1240 = .ok (.land, 1) := by decide +kernel
theorem dL_law_1241 : decode cL_law 1241 = .ok (.lor, 1) := by decide +kernel
theorem dL_law_1242 : decode cL_law 1242 = .ok (.invokevirtual 196, 3) := by decide +kernel
theorem dL_law_1245 : decode cL_law 1245 = .ok (.lstore 6, 2) := by decide +kernel
theorem dL_law_1247 : decode cL_law 1247 = .ok (.aload_n 2, 1) := by decide +kernel
theorem dL_law_1248 : decode cL_law 1248 = .ok (.invokevirtual 147, 3) := by decide +kernel
theorem dL_law_1251 : decode cL_law 1251 = .ok (.iload 5, 2) := by decide +kernel
theorem dL_law_1253 : decode cL_law 1253 = .ok (.if_icmp .eq 5, 3) := by decide +kernel
theorem dL_law_1258 : decode cL_law 1258 = .ok (.iload 5, 2) := by decide +kernel
theorem dL_law_1260 : decode cL_law 1260 = .ok (.ifCond .ne 14, 3) := by decide +kernel
theorem dL_law_1263 : decode cL_law 1263 = .ok (.aload_n 3, 1) := by decide +kernel
theorem dL_law_1264 : decode cL_law 1264 = .ok (.iconst 0, 1) := by decide +kernel
theorem dL_law_1265 : decode cL_law 1265 = .ok (.laload, 1) := by decide +kernel
theorem dL_law_1266 : decode cL_law 1266 = .ok (.lload 6, 2) := by decide +kernel
theorem dL_law_1268 : decode cL_law 1268 = .ok (.lcmp, 1) := by decide +kernel
theorem dL_law_1269 : decode cL_law 1269 = .ok (.ifCond .eq 5, 3) := by decide +kernel
theorem dL_law_1274 : decode cL_law 1274 = .ok (.goto 1666, 3) := by decide +kernel
set_option maxRecDepth 100000 in
set_option maxHeartbeats 4000000 in
theorem lc_find {p : Program} {l : Launch} {e : Env} {mc ms : Nat} {s : State} {m : MethodId} {below : List Frame} {meth : Method} {c : Code} {H : Heap} {locs : List Loc} {cells slots : Nat} {Q : State → Prop} {rt0 : Option FieldType} {nm0 : String} {D : va_G} {cy : Nat → ClassId} {N0 : Nat} {tb : List ExceptionTableEntry} {h : qH} {ls : Array Slot} {b L : Nat} {xs : Nat → Int32} {x y ou : Nat} {fo : Nat → Int64} {gr : Int32} {n i C1 C2 : Nat} {S : Nat → qSlot} {Wo : qWo} (C : qX p l s m #[Value.ref b] meth c RL cL_law 8 rt0 nm0 D cy N0 tb) (hX : va_X b L xs s s.heap) (hbl0 : b < s.heap.size) (hbA : ¬ qA N0 b) (hP : qP D N0 h H) (hS : va_S (qA N0) s.heap H locs) (hi : i + 7 ≤ L) (hL : L ≤ 449) (hn : n < 64) (j : JZ cy h x y ou fo gr n S Wo S Wo) (hp : PI gr n S Wo) (hc1 : cells ≤ C1 + t1 n + Wo.2.1.1 + qP1 Wo.2.1) (hc2 : slots ≤ C2 + t2 n + 10 * Wo.2.1.1 + qP2 Wo.2.1) (hmc : C1 + 530000 ≤ mc) (hms : C2 + 5520000 ≤ ms) (hl : lv_has ls 8 [(4, .int (nI i)), (3, .ref ou), (2, .ref y), (1, .ref x), (0, .ref b)]) (kend : ∀ (ls : Array Slot) (H : Heap) (locs : List Loc) (c1 c2 : Nat) (h : qH) (fo : Nat → Int64) (S : Nat → qSlot) (Wo : qWo), JZ cy h x y ou fo gr (n + 1) S Wo S Wo → PI gr (n + 1) S Wo → c1 ≤ C1 + t1 (n + 1) + Wo.2.1.1 + qP1 Wo.2.1 → c2 ≤ C2 + t2 (n + 1) + 10 * Wo.2.1.1 + qP2 Wo.2.1 → qP D N0 h H → va_S (qA N0) s.heap H locs → lv_has ls 8 [(4, .int (nI i)), (3, .ref ou), (2, .ref y), (1, .ref x), (0, .ref b)] → W p l e (qR 2048 84000 mc ms) s m #[Value.ref b] below meth c H locs c1 c2 Q (F0 m 2940 ls [])) : W p l e (qR 2048 84000 mc ms) s m #[Value.ref b] below meth c H locs cells slots Q (F0 m 1178 ls []) := by
  have hx := C.1
  have hb := C.2.1
  have h1L := t1_le (n + 1) (by omega)
  have h2L := t2_le (n + 1) (by omega)
  have e1L : t1 (n + 1) = t1 n + (1201 + 212 * n) := rfl
  have e2L : t2 (n + 1) = t2 n + (13300 + n * rMs n 7) := rfl
  have hb0 := hp.bnd (by omega)
  refine lv_aload_n hx hb dL_law_1178 rfl (lv_at hl 3 rfl) ?_
  refine lv_aload_n hx hb dL_law_1179 rfl (lv_at hl 4 rfl) ?_
  refine lv_iload hx hb dL_law_1180 (lv_at hl 0 rfl) ?_
  refine lv_iconst (v := nI 1) hx hb dL_law_1182 (by decide) ?_
  refine q_iaddN hx hb dL_law_1183 ?_
  refine va_sld hx hb hX hbl0 hbA hS (nI_in (by omega) (by omega)) dL_law_1184 ?_
  refine lv_topi (fun s1 es1 => ?_)
  refine lv_aload_n hx hb dL_law_1185 rfl (lv_at hl 4 rfl) ?_
  refine lv_iload hx hb dL_law_1186 (lv_at hl 0 rfl) ?_
  refine lv_iconst (v := nI 2) hx hb dL_law_1188 (by decide) ?_
  refine q_iaddN hx hb dL_law_1189 ?_
  refine va_sld hx hb hX hbl0 hbA hS (nI_in (by omega) (by omega)) dL_law_1190 ?_
  refine lv_topi (fun s2 es2 => ?_)
  refine lv_i2l hx hb dL_law_1191 rfl ?_
  refine lv_bipush (v := nI 32) hx hb dL_law_1192 (by decide) ?_
  refine lv_lshl hx hb dL_law_1194 rfl ?_
  refine lv_aload_n hx hb dL_law_1195 rfl (lv_at hl 4 rfl) ?_
  refine lv_iload hx hb dL_law_1196 (lv_at hl 0 rfl) ?_
  refine lv_iconst (v := nI 3) hx hb dL_law_1198 (by decide) ?_
  refine q_iaddN hx hb dL_law_1199 ?_
  refine va_sld hx hb hX hbl0 hbA hS (nI_in (by omega) (by omega)) dL_law_1200 ?_
  refine lv_topi (fun s3 es3 => ?_)
  refine lv_i2l hx hb dL_law_1201 rfl ?_
  refine lv_ldc2 hx hb C.2.2.2.2.1 (C.2.2.2.2.2.1 _ g1484) dL_law_1202 ?_
  refine lv_land hx hb dL_law_1205 ?_
  refine lv_lor hx hb dL_law_1206 ?_
  refine lv_topl (fun q2 eq2 => ?_)
  refine lv_aload_n hx hb dL_law_1207 rfl (lv_at hl 1 rfl) ?_
  have hpK : PI gr (n + 1) (S) (Wo) := hp.up
  have hbK := hpK.bnd (by omega)
  have hmo : MO Wo (Wo) := MO.rf
  have hqm := qP1_mo hmo hb0.2.2.2
  have hm1 := hmo.1
  refine q_callSW (rest := []) C (zl_find l D cy N0 h x y ou fo gr n S Wo s1 q2 j hp hn) kwL_find g763 g764 hP hS (by omega) hl.1 rfl (by decide) (by omega) dL_law_1208 (fun v hh1 H locs hq hP hS => ?_)
  obtain ⟨rfl, fo1, j1, ha1⟩ := hq
  obtain ⟨fi, re, rc, rs, so, ot, cn, la, hy1⟩ := j1.yo
  refine lv_istore (lv' := [(5, .int ((xs_find S s1 q2).1)), (4, .int (nI i)), (3, .ref ou), (2, .ref y), (1, .ref x), (0, .ref b)]) hx hb dL_law_1211 hl (by decide) rfl (fun ls hl => ?_)
  refine lv_aload_n hx hb dL_law_1213 rfl (lv_at hl 3 rfl) ?_
  refine lv_aload_n hx hb dL_law_1214 rfl (lv_at hl 5 rfl) ?_
  refine lv_iload hx hb dL_law_1215 (lv_at hl 1 rfl) ?_
  refine lv_iconst (v := nI 1) hx hb dL_law_1217 (by decide) ?_
  refine q_iaddN hx hb dL_law_1218 ?_
  refine va_sld hx hb hX hbl0 hbA hS (nI_in (by omega) (by omega)) dL_law_1219 ?_
  rw [← es1]
  refine lv_aload_n hx hb dL_law_1220 rfl (lv_at hl 5 rfl) ?_
  refine lv_iload hx hb dL_law_1221 (lv_at hl 1 rfl) ?_
  refine lv_iconst (v := nI 2) hx hb dL_law_1223 (by decide) ?_
  refine q_iaddN hx hb dL_law_1224 ?_
  refine va_sld hx hb hX hbl0 hbA hS (nI_in (by omega) (by omega)) dL_law_1225 ?_
  rw [← es2]
  refine lv_i2l hx hb dL_law_1226 rfl ?_
  refine lv_bipush (v := nI 32) hx hb dL_law_1227 (by decide) ?_
  refine lv_lshl hx hb dL_law_1229 rfl ?_
  refine lv_aload_n hx hb dL_law_1230 rfl (lv_at hl 5 rfl) ?_
  refine lv_iload hx hb dL_law_1231 (lv_at hl 1 rfl) ?_
  refine lv_iconst (v := nI 3) hx hb dL_law_1233 (by decide) ?_
  refine q_iaddN hx hb dL_law_1234 ?_
  refine va_sld hx hb hX hbl0 hbA hS (nI_in (by omega) (by omega)) dL_law_1235 ?_
  rw [← es3]
  refine lv_i2l hx hb dL_law_1236 rfl ?_
  refine lv_ldc2 hx hb C.2.2.2.2.1 (C.2.2.2.2.2.1 _ g1484) dL_law_1237 ?_
  refine lv_land hx hb dL_law_1240 ?_
  refine lv_lor hx hb dL_law_1241 ?_
  rw [← eq2]
  refine q_callV (rest := []) C (wl_find l D cy N0 hh1 x y ou fo1 gr n S Wo s1 q2 j1 hp hn) kX8_find_ g1397 g1398 rfl g1399 g4 hP hS hy1 (by first | decide | omega) hl.1 rfl (by decide) (by first | decide | omega) dL_law_1242 (fun q ce E h' H1 locs1 hE => hE.elim) (fun v hh2 H locs hq hP hS => ?_)
  obtain ⟨rfl, W2, j2, p2, hcd, hw2⟩ := hq
  have hb2 : W2.2.1 = (Wo).2.1 := congrArg Prod.fst hw2
  obtain ⟨fi2, re2, rc2, rs2, so2, ot2, cn2, la2, hy2⟩ := j2.yo
  refine lv_lstore (lv' := [(6, .long ((xs_find S s1 q2).2)), (5, .int ((xs_find S s1 q2).1)), (4, .int (nI i)), (3, .ref ou), (2, .ref y), (1, .ref x), (0, .ref b)]) hx hb dL_law_1245 hl (by decide) rfl (fun ls hl => ?_)
  refine lv_aload_n hx hb dL_law_1247 rfl (lv_at hl 4 rfl) ?_
  refine q_callV (rest := []) C (c_X8_thrown l D cy N0 hh2 y W2.1.1 W2.1.2.1 W2.1.2.2.1 W2.1.2.2.2.1 W2.1.2.2.2.2.1 fi2 re2 rc2 rs2 so2 ot2 cn2 la2 W2.1.2.2.2.2.2.1 W2.1.2.2.2.2.2.2.1 W2.1.2.2.2.2.2.2.2.1 W2.1.2.2.2.2.2.2.2.2.1 W2.1.2.2.2.2.2.2.2.2.2.1 W2.1.2.2.2.2.2.2.2.2.2.2.1 W2.1.2.2.2.2.2.2.2.2.2.2.2.1 (nI W2.2.1.1) (nI W2.2.2.1) W2.1.2.2.2.2.2.2.2.2.2.2.2.2 hy2) kX8_thrown g1238 g1239 rfl g1240 g4 hP hS hy2 (by first | decide | omega) hl.1 rfl (by decide) (by first | decide | omega) dL_law_1248 (fun q ce E h' H1 locs1 hE => hE.elim) (fun v hh3 H locs hq hP hS => ?_)
  obtain ⟨rfl, rfl⟩ := hq
  rw [hcd]
  refine lv_iload hx hb dL_law_1251 (lv_at hl 1 rfl) ?_
  refine lv_icmp_eq (tgt := 1258) hx hb dL_law_1253 (by decide) (fun _ => ?_) (fun c9 => absurd rfl c9)
  refine lv_iload hx hb dL_law_1258 (lv_at hl 1 rfl) ?_
  refine lv_if_ne (tgt := 1274) hx hb dL_law_1260 (by decide) (fun _ => ?_) (fun hk0 => ?_)
  · refine lv_goto (tgt := 2940) hx hb dL_law_1274 (by decide) ?_
    exact kend ls H locs _ _ _ fo1 _ W2 j2 p2 (by rw [hb2]; omega) (by rw [hb2]; omega) hP hS (lv_sub hl [2, 3, 4, 5, 6] rfl)
  · refine lv_aload_n hx hb dL_law_1263 rfl (lv_at hl 3 rfl) ?_
    refine lv_iconst (v := nI 0) hx hb dL_law_1264 (by decide) ?_
    refine q_laldN C hP j2.ouf (by omega) (by omega) dL_law_1265 ?_
    refine lv_lload hx hb dL_law_1266 (lv_at hl 0 rfl) ?_
    refine W.lcmp hx hb dL_law_1268 ?_
    refine lv_if_eq (tgt := 1274) hx hb dL_law_1269 (by decide) (fun _ => ?_) (fun c9 => absurd ((lg_cmp_eq _ _).mpr (ha1 hk0)) c9)
    refine lv_goto (tgt := 2940) hx hb dL_law_1274 (by decide) ?_
    exact kend ls H locs _ _ _ fo1 _ W2 j2 p2 (by rw [hb2]; omega) (by rw [hb2]; omega) hP hS (lv_sub hl [2, 3, 4, 5, 6] rfl)
theorem dL_law_1277 : decode cL_law 1277 = .ok (.aload_n 1, 1) := by decide +kernel
theorem dL_law_1278 : decode cL_law 1278 = .ok (.aload_n 0, 1) := by decide +kernel
theorem dL_law_1279 : decode cL_law 1279 = .ok (.iload 4, 2) := by decide +kernel
theorem dL_law_1281 : decode cL_law 1281 = .ok (.iconst 1, 1) := by decide +kernel
theorem dL_law_1282 : decode cL_law 1282 = .ok (.iadd, 1) := by decide +kernel
theorem dL_law_1283 : decode cL_law 1283 = .ok (.iaload, 1) := by decide +kernel
theorem dL_law_1284 : decode cL_law 1284 = .ok (.aload_n 0, 1) := by decide +kernel
theorem dL_law_1285 : decode cL_law 1285 = .ok (.iload 4, 2) := by decide +kernel
theorem dL_law_1287 : decode cL_law 1287 = .ok (.iconst 2, 1) := by decide +kernel
theorem dL_law_1288 : decode cL_law 1288 = .ok (.iadd, 1) := by decide +kernel
theorem dL_law_1289 : decode cL_law 1289 = .ok (.iaload, 1) := by decide +kernel
theorem dL_law_1290 : decode cL_law 1290 = .ok (.aload_n 0, 1) := by decide +kernel
theorem dL_law_1291 : decode cL_law 1291 = .ok (.iload 4, 2) := by decide +kernel
theorem dL_law_1293 : decode cL_law 1293 = .ok (.iconst 3, 1) := by decide +kernel
theorem dL_law_1294 : decode cL_law 1294 = .ok (.iadd, 1) := by decide +kernel
theorem dL_law_1295 : decode cL_law 1295 = .ok (.iaload, 1) := by decide +kernel
theorem dL_law_1296 : decode cL_law 1296 = .ok (.i2l, 1) := by decide +kernel
theorem dL_law_1297 : decode cL_law 1297 = .ok (.bipush 32, 2) := by decide +kernel
theorem dL_law_1299 : decode cL_law 1299 = .ok (.lshl, 1) := by decide +kernel
theorem dL_law_1300 : decode cL_law 1300 = .ok (.aload_n 0, 1) := by decide +kernel
theorem dL_law_1301 : decode cL_law 1301 = .ok (.iload 4, 2) := by decide +kernel
theorem dL_law_1303 : decode cL_law 1303 = .ok (.iconst 4, 1) := by decide +kernel
theorem dL_law_1304 : decode cL_law 1304 = .ok (.iadd, 1) := by decide +kernel
theorem dL_law_1305 : decode cL_law 1305 = .ok (.iaload, 1) := by decide +kernel
theorem dL_law_1306 : decode cL_law 1306 = .ok (.i2l, 1) := by decide +kernel
theorem dL_law_1307 : decode cL_law 1307 = .ok (.ldc2_w 161, 3) := by decide +kernel
theorem dL_law_1310 : decode cL_law 1310 = .ok (.land, 1) := by decide +kernel
theorem dL_law_1311 : decode cL_law 1311 = .ok (.lor, 1) := by decide +kernel
theorem dL_law_1312 : decode cL_law 1312 = .ok (.aload_n 3, 1) := by decide +kernel
theorem dL_law_1313 : decode cL_law 1313 = .ok (.invokestatic 197, 3) := by decide +kernel
theorem dL_law_1316 : decode cL_law 1316 = .ok (.istore 5, 2) := by decide +kernel
theorem dL_law_1318 : decode cL_law 1318 = .ok (.aload_n 2, 1) := by decide +kernel
theorem dL_law_1319 : decode cL_law 1319 = .ok (.aload_n 0, 1) := by decide +kernel
theorem dL_law_1320 : decode cL_law 1320 = .ok (.iload 4, 2) := by decide +kernel
theorem dL_law_1322 : decode cL_law 1322 = .ok (.iconst 1, 1) := by decide +kernel
theorem dL_law_1323 : decode cL_law 1323 = .ok (.iadd, 1) := by decide +kernel
theorem dL_law_1324 : decode cL_law 1324 = .ok (.iaload, 1) := by decide +kernel
theorem dL_law_1325 : decode cL_law 1325 = .ok (.aload_n 0, 1) := by decide +kernel
theorem dL_law_1326 : decode cL_law 1326 = .ok (.iload 4, 2) := by decide +kernel
theorem dL_law_1328 : decode cL_law 1328 = .ok (.iconst 2, 1) := by decide +kernel
theorem dL_law_1329 : decode cL_law 1329 = .ok (.iadd, 1) := by decide +kernel
theorem dL_law_1330 : decode cL_law 1330 = .ok (.iaload, 1) := by decide +kernel
theorem dL_law_1331 : decode cL_law 1331 = .ok (.aload_n 0, 1) := by decide +kernel
theorem dL_law_1332 : decode cL_law 1332 = .ok (.iload 4, 2) := by decide +kernel
theorem dL_law_1334 : decode cL_law 1334 = .ok (.iconst 3, 1) := by decide +kernel
theorem dL_law_1335 : decode cL_law 1335 = .ok (.iadd, 1) := by decide +kernel
theorem dL_law_1336 : decode cL_law 1336 = .ok (.iaload, 1) := by decide +kernel
theorem dL_law_1337 : decode cL_law 1337 = .ok (.i2l, 1) := by decide +kernel
theorem dL_law_1338 : decode cL_law 1338 = .ok (.bipush 32, 2) := by decide +kernel
theorem dL_law_1340 : decode cL_law 1340 = .ok (.lshl, 1) := by decide +kernel
theorem dL_law_1341 : decode cL_law 1341 = .ok (.aload_n 0, 1) := by decide +kernel
theorem dL_law_1342 : decode cL_law 1342 = .ok (.iload 4, 2) := by decide +kernel
theorem dL_law_1344 : decode cL_law 1344 = .ok (.iconst 4, 1) := by decide +kernel
theorem dL_law_1345 : decode cL_law 1345 = .ok (.iadd, 1) := by decide +kernel
theorem dL_law_1346 : decode cL_law 1346 = .ok (.iaload, 1) := by decide +kernel
theorem dL_law_1347 : decode cL_law 1347 = .ok (.i2l, 1) := by decide +kernel
theorem dL_law_1348 : decode cL_law 1348 = .ok (.ldc2_w 161, 3) := by decide +kernel
theorem dL_law_1351 : decode cL_law 1351 = .ok (.land, 1) := by decide +kernel
theorem dL_law_1352 : decode cL_law 1352 = .ok (.lor, 1) := by decide +kernel
theorem dL_law_1353 : decode cL_law 1353 = .ok (.invokevirtual 199, 3) := by decide +kernel
theorem dL_law_1356 : decode cL_law 1356 = .ok (.istore 6, 2) := by decide +kernel
theorem dL_law_1358 : decode cL_law 1358 = .ok (.aload_n 2, 1) := by decide +kernel
theorem dL_law_1359 : decode cL_law 1359 = .ok (.invokevirtual 147, 3) := by decide +kernel
theorem dL_law_1362 : decode cL_law 1362 = .ok (.iload 5, 2) := by decide +kernel
theorem dL_law_1364 : decode cL_law 1364 = .ok (.if_icmp .eq 5, 3) := by decide +kernel
theorem dL_law_1369 : decode cL_law 1369 = .ok (.iload 5, 2) := by decide +kernel
theorem dL_law_1371 : decode cL_law 1371 = .ok (.ifCond .ne 15, 3) := by decide +kernel
theorem dL_law_1374 : decode cL_law 1374 = .ok (.aload_n 3, 1) := by decide +kernel
theorem dL_law_1375 : decode cL_law 1375 = .ok (.iconst 0, 1) := by decide +kernel
theorem dL_law_1376 : decode cL_law 1376 = .ok (.laload, 1) := by decide +kernel
theorem dL_law_1377 : decode cL_law 1377 = .ok (.iload 6, 2) := by decide +kernel
theorem dL_law_1379 : decode cL_law 1379 = .ok (.i2l, 1) := by decide +kernel
theorem dL_law_1380 : decode cL_law 1380 = .ok (.lcmp, 1) := by decide +kernel
theorem dL_law_1381 : decode cL_law 1381 = .ok (.ifCond .eq 5, 3) := by decide +kernel
theorem dL_law_1386 : decode cL_law 1386 = .ok (.goto 1554, 3) := by decide +kernel
set_option maxRecDepth 100000 in
set_option maxHeartbeats 4000000 in
theorem lc_out {p : Program} {l : Launch} {e : Env} {mc ms : Nat} {s : State} {m : MethodId} {below : List Frame} {meth : Method} {c : Code} {H : Heap} {locs : List Loc} {cells slots : Nat} {Q : State → Prop} {rt0 : Option FieldType} {nm0 : String} {D : va_G} {cy : Nat → ClassId} {N0 : Nat} {tb : List ExceptionTableEntry} {h : qH} {ls : Array Slot} {b L : Nat} {xs : Nat → Int32} {x y ou : Nat} {fo : Nat → Int64} {gr : Int32} {n i C1 C2 : Nat} {S : Nat → qSlot} {Wo : qWo} (C : qX p l s m #[Value.ref b] meth c RL cL_law 8 rt0 nm0 D cy N0 tb) (hX : va_X b L xs s s.heap) (hbl0 : b < s.heap.size) (hbA : ¬ qA N0 b) (hP : qP D N0 h H) (hS : va_S (qA N0) s.heap H locs) (hi : i + 7 ≤ L) (hL : L ≤ 449) (hn : n < 64) (j : JZ cy h x y ou fo gr n S Wo S Wo) (hp : PI gr n S Wo) (hc1 : cells ≤ C1 + t1 n + Wo.2.1.1 + qP1 Wo.2.1) (hc2 : slots ≤ C2 + t2 n + 10 * Wo.2.1.1 + qP2 Wo.2.1) (hmc : C1 + 530000 ≤ mc) (hms : C2 + 5520000 ≤ ms) (hl : lv_has ls 8 [(4, .int (nI i)), (3, .ref ou), (2, .ref y), (1, .ref x), (0, .ref b)]) (kend : ∀ (ls : Array Slot) (H : Heap) (locs : List Loc) (c1 c2 : Nat) (h : qH) (fo : Nat → Int64) (S : Nat → qSlot) (Wo : qWo), JZ cy h x y ou fo gr (n + 1) S Wo S Wo → PI gr (n + 1) S Wo → c1 ≤ C1 + t1 (n + 1) + Wo.2.1.1 + qP1 Wo.2.1 → c2 ≤ C2 + t2 (n + 1) + 10 * Wo.2.1.1 + qP2 Wo.2.1 → qP D N0 h H → va_S (qA N0) s.heap H locs → lv_has ls 8 [(4, .int (nI i)), (3, .ref ou), (2, .ref y), (1, .ref x), (0, .ref b)] → W p l e (qR 2048 84000 mc ms) s m #[Value.ref b] below meth c H locs c1 c2 Q (F0 m 2940 ls [])) : W p l e (qR 2048 84000 mc ms) s m #[Value.ref b] below meth c H locs cells slots Q (F0 m 1277 ls []) := by
  have hx := C.1
  have hb := C.2.1
  have h1L := t1_le (n + 1) (by omega)
  have h2L := t2_le (n + 1) (by omega)
  have e1L : t1 (n + 1) = t1 n + (1201 + 212 * n) := rfl
  have e2L : t2 (n + 1) = t2 n + (13300 + n * rMs n 7) := rfl
  have hb0 := hp.bnd (by omega)
  refine lv_aload_n hx hb dL_law_1277 rfl (lv_at hl 3 rfl) ?_
  refine lv_aload_n hx hb dL_law_1278 rfl (lv_at hl 4 rfl) ?_
  refine lv_iload hx hb dL_law_1279 (lv_at hl 0 rfl) ?_
  refine lv_iconst (v := nI 1) hx hb dL_law_1281 (by decide) ?_
  refine q_iaddN hx hb dL_law_1282 ?_
  refine va_sld hx hb hX hbl0 hbA hS (nI_in (by omega) (by omega)) dL_law_1283 ?_
  refine lv_topi (fun s1 es1 => ?_)
  refine lv_aload_n hx hb dL_law_1284 rfl (lv_at hl 4 rfl) ?_
  refine lv_iload hx hb dL_law_1285 (lv_at hl 0 rfl) ?_
  refine lv_iconst (v := nI 2) hx hb dL_law_1287 (by decide) ?_
  refine q_iaddN hx hb dL_law_1288 ?_
  refine va_sld hx hb hX hbl0 hbA hS (nI_in (by omega) (by omega)) dL_law_1289 ?_
  refine lv_topi (fun s2 es2 => ?_)
  refine lv_aload_n hx hb dL_law_1290 rfl (lv_at hl 4 rfl) ?_
  refine lv_iload hx hb dL_law_1291 (lv_at hl 0 rfl) ?_
  refine lv_iconst (v := nI 3) hx hb dL_law_1293 (by decide) ?_
  refine q_iaddN hx hb dL_law_1294 ?_
  refine va_sld hx hb hX hbl0 hbA hS (nI_in (by omega) (by omega)) dL_law_1295 ?_
  refine lv_topi (fun s3 es3 => ?_)
  refine lv_i2l hx hb dL_law_1296 rfl ?_
  refine lv_bipush (v := nI 32) hx hb dL_law_1297 (by decide) ?_
  refine lv_lshl hx hb dL_law_1299 rfl ?_
  refine lv_aload_n hx hb dL_law_1300 rfl (lv_at hl 4 rfl) ?_
  refine lv_iload hx hb dL_law_1301 (lv_at hl 0 rfl) ?_
  refine lv_iconst (v := nI 4) hx hb dL_law_1303 (by decide) ?_
  refine q_iaddN hx hb dL_law_1304 ?_
  refine va_sld hx hb hX hbl0 hbA hS (nI_in (by omega) (by omega)) dL_law_1305 ?_
  refine lv_topi (fun s4 es4 => ?_)
  refine lv_i2l hx hb dL_law_1306 rfl ?_
  refine lv_ldc2 hx hb C.2.2.2.2.1 (C.2.2.2.2.2.1 _ g1484) dL_law_1307 ?_
  refine lv_land hx hb dL_law_1310 ?_
  refine lv_lor hx hb dL_law_1311 ?_
  refine lv_topl (fun q3 eq3 => ?_)
  refine lv_aload_n hx hb dL_law_1312 rfl (lv_at hl 1 rfl) ?_
  have hpK : PI gr (n + 1) ((xs_out S s1 s2 q3).2.1) (Wo) := hp.out
  have hbK := hpK.bnd (by omega)
  have hmo : MO Wo (Wo) := MO.rf
  have hqm := qP1_mo hmo hb0.2.2.2
  have hm1 := hmo.1
  refine q_callSW (rest := []) C (zl_out l D cy N0 h x y ou fo gr n S Wo s1 s2 q3 j hp hn) kwL_out g776 g777 hP hS (by omega) hl.1 rfl (by decide) (by omega) dL_law_1313 (fun v hh1 H locs hq hP hS => ?_)
  obtain ⟨rfl, fo1, j1, ha1⟩ := hq
  obtain ⟨fi, re, rc, rs, so, ot, cn, la, hy1⟩ := j1.yo
  refine lv_istore (lv' := [(5, .int ((xs_out S s1 s2 q3).1)), (4, .int (nI i)), (3, .ref ou), (2, .ref y), (1, .ref x), (0, .ref b)]) hx hb dL_law_1316 hl (by decide) rfl (fun ls hl => ?_)
  refine lv_aload_n hx hb dL_law_1318 rfl (lv_at hl 3 rfl) ?_
  refine lv_aload_n hx hb dL_law_1319 rfl (lv_at hl 5 rfl) ?_
  refine lv_iload hx hb dL_law_1320 (lv_at hl 1 rfl) ?_
  refine lv_iconst (v := nI 1) hx hb dL_law_1322 (by decide) ?_
  refine q_iaddN hx hb dL_law_1323 ?_
  refine va_sld hx hb hX hbl0 hbA hS (nI_in (by omega) (by omega)) dL_law_1324 ?_
  rw [← es1]
  refine lv_aload_n hx hb dL_law_1325 rfl (lv_at hl 5 rfl) ?_
  refine lv_iload hx hb dL_law_1326 (lv_at hl 1 rfl) ?_
  refine lv_iconst (v := nI 2) hx hb dL_law_1328 (by decide) ?_
  refine q_iaddN hx hb dL_law_1329 ?_
  refine va_sld hx hb hX hbl0 hbA hS (nI_in (by omega) (by omega)) dL_law_1330 ?_
  rw [← es2]
  refine lv_aload_n hx hb dL_law_1331 rfl (lv_at hl 5 rfl) ?_
  refine lv_iload hx hb dL_law_1332 (lv_at hl 1 rfl) ?_
  refine lv_iconst (v := nI 3) hx hb dL_law_1334 (by decide) ?_
  refine q_iaddN hx hb dL_law_1335 ?_
  refine va_sld hx hb hX hbl0 hbA hS (nI_in (by omega) (by omega)) dL_law_1336 ?_
  rw [← es3]
  refine lv_i2l hx hb dL_law_1337 rfl ?_
  refine lv_bipush (v := nI 32) hx hb dL_law_1338 (by decide) ?_
  refine lv_lshl hx hb dL_law_1340 rfl ?_
  refine lv_aload_n hx hb dL_law_1341 rfl (lv_at hl 5 rfl) ?_
  refine lv_iload hx hb dL_law_1342 (lv_at hl 1 rfl) ?_
  refine lv_iconst (v := nI 4) hx hb dL_law_1344 (by decide) ?_
  refine q_iaddN hx hb dL_law_1345 ?_
  refine va_sld hx hb hX hbl0 hbA hS (nI_in (by omega) (by omega)) dL_law_1346 ?_
  rw [← es4]
  refine lv_i2l hx hb dL_law_1347 rfl ?_
  refine lv_ldc2 hx hb C.2.2.2.2.1 (C.2.2.2.2.2.1 _ g1484) dL_law_1348 ?_
  refine lv_land hx hb dL_law_1351 ?_
  refine lv_lor hx hb dL_law_1352 ?_
  rw [← eq3]
  refine q_callV (rest := []) C (wl_out l D cy N0 hh1 x y ou fo1 gr n S Wo s1 s2 q3 j1 hp hn) kX8_out g1401 g1402 rfl g1403 g4 hP hS hy1 (by first | decide | omega) hl.1 rfl (by decide) (by first | decide | omega) dL_law_1353 (fun q ce E h' H1 locs1 hE => hE.elim) (fun v hh2 H locs hq hP hS => ?_)
  obtain ⟨rfl, W2, j2, p2, hcd, hw2⟩ := hq
  have hb2 : W2.2.1 = (Wo).2.1 := congrArg Prod.fst hw2
  obtain ⟨fi2, re2, rc2, rs2, so2, ot2, cn2, la2, hy2⟩ := j2.yo
  refine lv_istore (lv' := [(6, .int ((xs_out S s1 s2 q3).2.2)), (5, .int ((xs_out S s1 s2 q3).1)), (4, .int (nI i)), (3, .ref ou), (2, .ref y), (1, .ref x), (0, .ref b)]) hx hb dL_law_1356 hl (by decide) rfl (fun ls hl => ?_)
  refine lv_aload_n hx hb dL_law_1358 rfl (lv_at hl 4 rfl) ?_
  refine q_callV (rest := []) C (c_X8_thrown l D cy N0 hh2 y W2.1.1 W2.1.2.1 W2.1.2.2.1 W2.1.2.2.2.1 W2.1.2.2.2.2.1 fi2 re2 rc2 rs2 so2 ot2 cn2 la2 W2.1.2.2.2.2.2.1 W2.1.2.2.2.2.2.2.1 W2.1.2.2.2.2.2.2.2.1 W2.1.2.2.2.2.2.2.2.2.1 W2.1.2.2.2.2.2.2.2.2.2.1 W2.1.2.2.2.2.2.2.2.2.2.2.1 W2.1.2.2.2.2.2.2.2.2.2.2.2.1 (nI W2.2.1.1) (nI W2.2.2.1) W2.1.2.2.2.2.2.2.2.2.2.2.2.2 hy2) kX8_thrown g1238 g1239 rfl g1240 g4 hP hS hy2 (by first | decide | omega) hl.1 rfl (by decide) (by first | decide | omega) dL_law_1359 (fun q ce E h' H1 locs1 hE => hE.elim) (fun v hh3 H locs hq hP hS => ?_)
  obtain ⟨rfl, rfl⟩ := hq
  rw [hcd]
  refine lv_iload hx hb dL_law_1362 (lv_at hl 1 rfl) ?_
  refine lv_icmp_eq (tgt := 1369) hx hb dL_law_1364 (by decide) (fun _ => ?_) (fun c9 => absurd rfl c9)
  refine lv_iload hx hb dL_law_1369 (lv_at hl 1 rfl) ?_
  refine lv_if_ne (tgt := 1386) hx hb dL_law_1371 (by decide) (fun _ => ?_) (fun hk0 => ?_)
  · refine lv_goto (tgt := 2940) hx hb dL_law_1386 (by decide) ?_
    exact kend ls H locs _ _ _ fo1 _ W2 j2 p2 (by rw [hb2]; omega) (by rw [hb2]; omega) hP hS (lv_sub hl [2, 3, 4, 5, 6] rfl)
  · refine lv_aload_n hx hb dL_law_1374 rfl (lv_at hl 3 rfl) ?_
    refine lv_iconst (v := nI 0) hx hb dL_law_1375 (by decide) ?_
    refine q_laldN C hP j2.ouf (by omega) (by omega) dL_law_1376 ?_
    refine lv_iload hx hb dL_law_1377 (lv_at hl 0 rfl) ?_
    refine lv_i2l hx hb dL_law_1379 rfl ?_
    refine W.lcmp hx hb dL_law_1380 ?_
    refine lv_if_eq (tgt := 1386) hx hb dL_law_1381 (by decide) (fun _ => ?_) (fun c9 => absurd ((lg_cmp_eq _ _).mpr (ha1 hk0)) c9)
    refine lv_goto (tgt := 2940) hx hb dL_law_1386 (by decide) ?_
    exact kend ls H locs _ _ _ fo1 _ W2 j2 p2 (by rw [hb2]; omega) (by rw [hb2]; omega) hP hS (lv_sub hl [2, 3, 4, 5, 6] rfl)
theorem dL_law_1389 : decode cL_law 1389 = .ok (.aload_n 1, 1) := by decide +kernel
theorem dL_law_1390 : decode cL_law 1390 = .ok (.aload_n 0, 1) := by decide +kernel
theorem dL_law_1391 : decode cL_law 1391 = .ok (.iload 4, 2) := by decide +kernel
theorem dL_law_1393 : decode cL_law 1393 = .ok (.iconst 1, 1) := by decide +kernel
theorem dL_law_1394 : decode cL_law 1394 = .ok (.iadd, 1) := by decide +kernel
theorem dL_law_1395 : decode cL_law 1395 = .ok (.iaload, 1) := by decide +kernel
theorem dL_law_1396 : decode cL_law 1396 = .ok (.aload_n 0, 1) := by decide +kernel
theorem dL_law_1397 : decode cL_law 1397 = .ok (.iload 4, 2) := by decide +kernel
theorem dL_law_1399 : decode cL_law 1399 = .ok (.iconst 2, 1) := by decide +kernel
theorem dL_law_1400 : decode cL_law 1400 = .ok (.iadd, 1) := by decide +kernel
theorem dL_law_1401 : decode cL_law 1401 = .ok (.iaload, 1) := by decide +kernel
theorem dL_law_1402 : decode cL_law 1402 = .ok (.i2l, 1) := by decide +kernel
theorem dL_law_1403 : decode cL_law 1403 = .ok (.bipush 32, 2) := by decide +kernel
theorem dL_law_1405 : decode cL_law 1405 = .ok (.lshl, 1) := by decide +kernel
theorem dL_law_1406 : decode cL_law 1406 = .ok (.aload_n 0, 1) := by decide +kernel
theorem dL_law_1407 : decode cL_law 1407 = .ok (.iload 4, 2) := by decide +kernel
theorem dL_law_1409 : decode cL_law 1409 = .ok (.iconst 3, 1) := by decide +kernel
theorem dL_law_1410 : decode cL_law 1410 = .ok (.iadd, 1) := by decide +kernel
theorem dL_law_1411 : decode cL_law 1411 = .ok (.iaload, 1) := by decide +kernel
theorem dL_law_1412 : decode cL_law 1412 = .ok (.i2l, 1) := by decide +kernel
theorem dL_law_1413 : decode cL_law 1413 = .ok (.ldc2_w 161, 3) := by decide +kernel
theorem dL_law_1416 : decode cL_law 1416 = .ok (.land, 1) := by decide +kernel
theorem dL_law_1417 : decode cL_law 1417 = .ok (.lor, 1) := by decide +kernel
theorem dL_law_1418 : decode cL_law 1418 = .ok (.aload_n 0, 1) := by decide +kernel
theorem dL_law_1419 : decode cL_law 1419 = .ok (.iload 4, 2) := by decide +kernel
theorem dL_law_1421 : decode cL_law 1421 = .ok (.iconst 4, 1) := by decide +kernel
theorem dL_law_1422 : decode cL_law 1422 = .ok (.iadd, 1) := by decide +kernel
theorem dL_law_1423 : decode cL_law 1423 = .ok (.iaload, 1) := by decide +kernel
theorem dL_law_1424 : decode cL_law 1424 = .ok (.aload_n 3, 1) := by decide +kernel
theorem dL_law_1425 : decode cL_law 1425 = .ok (.invokestatic 200, 3) := by decide +kernel
theorem dL_law_1428 : decode cL_law 1428 = .ok (.istore 5, 2) := by decide +kernel
theorem dL_law_1430 : decode cL_law 1430 = .ok (.aload_n 2, 1) := by decide +kernel
theorem dL_law_1431 : decode cL_law 1431 = .ok (.aload_n 0, 1) := by decide +kernel
theorem dL_law_1432 : decode cL_law 1432 = .ok (.iload 4, 2) := by decide +kernel
theorem dL_law_1434 : decode cL_law 1434 = .ok (.iconst 1, 1) := by decide +kernel
theorem dL_law_1435 : decode cL_law 1435 = .ok (.iadd, 1) := by decide +kernel
theorem dL_law_1436 : decode cL_law 1436 = .ok (.iaload, 1) := by decide +kernel
theorem dL_law_1437 : decode cL_law 1437 = .ok (.aload_n 0, 1) := by decide +kernel
theorem dL_law_1438 : decode cL_law 1438 = .ok (.iload 4, 2) := by decide +kernel
theorem dL_law_1440 : decode cL_law 1440 = .ok (.iconst 2, 1) := by decide +kernel
theorem dL_law_1441 : decode cL_law 1441 = .ok (.iadd, 1) := by decide +kernel
theorem dL_law_1442 : decode cL_law 1442 = .ok (.iaload, 1) := by decide +kernel
theorem dL_law_1443 : decode cL_law 1443 = .ok (.i2l, 1) := by decide +kernel
theorem dL_law_1444 : decode cL_law 1444 = .ok (.bipush 32, 2) := by decide +kernel
theorem dL_law_1446 : decode cL_law 1446 = .ok (.lshl, 1) := by decide +kernel
theorem dL_law_1447 : decode cL_law 1447 = .ok (.aload_n 0, 1) := by decide +kernel
theorem dL_law_1448 : decode cL_law 1448 = .ok (.iload 4, 2) := by decide +kernel
theorem dL_law_1450 : decode cL_law 1450 = .ok (.iconst 3, 1) := by decide +kernel
theorem dL_law_1451 : decode cL_law 1451 = .ok (.iadd, 1) := by decide +kernel
theorem dL_law_1452 : decode cL_law 1452 = .ok (.iaload, 1) := by decide +kernel
theorem dL_law_1453 : decode cL_law 1453 = .ok (.i2l, 1) := by decide +kernel
theorem dL_law_1454 : decode cL_law 1454 = .ok (.ldc2_w 161, 3) := by decide +kernel
theorem dL_law_1457 : decode cL_law 1457 = .ok (.land, 1) := by decide +kernel
theorem dL_law_1458 : decode cL_law 1458 = .ok (.lor, 1) := by decide +kernel
theorem dL_law_1459 : decode cL_law 1459 = .ok (.aload_n 0, 1) := by decide +kernel
theorem dL_law_1460 : decode cL_law 1460 = .ok (.iload 4, 2) := by decide +kernel
theorem dL_law_1462 : decode cL_law 1462 = .ok (.iconst 4, 1) := by decide +kernel
theorem dL_law_1463 : decode cL_law 1463 = .ok (.iadd, 1) := by decide +kernel
theorem dL_law_1464 : decode cL_law 1464 = .ok (.iaload, 1) := by decide +kernel
theorem dL_law_1465 : decode cL_law 1465 = .ok (.invokevirtual 203, 3) := by decide +kernel
theorem dL_law_1468 : decode cL_law 1468 = .ok (.lstore 6, 2) := by decide +kernel
theorem dL_law_1470 : decode cL_law 1470 = .ok (.aload_n 2, 1) := by decide +kernel
theorem dL_law_1471 : decode cL_law 1471 = .ok (.invokevirtual 147, 3) := by decide +kernel
theorem dL_law_1474 : decode cL_law 1474 = .ok (.iload 5, 2) := by decide +kernel
theorem dL_law_1476 : decode cL_law 1476 = .ok (.if_icmp .eq 5, 3) := by decide +kernel
theorem dL_law_1481 : decode cL_law 1481 = .ok (.iload 5, 2) := by decide +kernel
theorem dL_law_1483 : decode cL_law 1483 = .ok (.ifCond .ne 14, 3) := by decide +kernel
theorem dL_law_1486 : decode cL_law 1486 = .ok (.aload_n 3, 1) := by decide +kernel
theorem dL_law_1487 : decode cL_law 1487 = .ok (.iconst 0, 1) := by decide +kernel
theorem dL_law_1488 : decode cL_law 1488 = .ok (.laload, 1) := by decide +kernel
theorem dL_law_1489 : decode cL_law 1489 = .ok (.lload 6, 2) := by decide +kernel
theorem dL_law_1491 : decode cL_law 1491 = .ok (.lcmp, 1) := by decide +kernel
theorem dL_law_1492 : decode cL_law 1492 = .ok (.ifCond .eq 5, 3) := by decide +kernel
theorem dL_law_1497 : decode cL_law 1497 = .ok (.goto 1443, 3) := by decide +kernel
set_option maxRecDepth 100000 in
set_option maxHeartbeats 4000000 in
theorem lc_near {p : Program} {l : Launch} {e : Env} {mc ms : Nat} {s : State} {m : MethodId} {below : List Frame} {meth : Method} {c : Code} {H : Heap} {locs : List Loc} {cells slots : Nat} {Q : State → Prop} {rt0 : Option FieldType} {nm0 : String} {D : va_G} {cy : Nat → ClassId} {N0 : Nat} {tb : List ExceptionTableEntry} {h : qH} {ls : Array Slot} {b L : Nat} {xs : Nat → Int32} {x y ou : Nat} {fo : Nat → Int64} {gr : Int32} {n i C1 C2 : Nat} {S : Nat → qSlot} {Wo : qWo} (C : qX p l s m #[Value.ref b] meth c RL cL_law 8 rt0 nm0 D cy N0 tb) (hX : va_X b L xs s s.heap) (hbl0 : b < s.heap.size) (hbA : ¬ qA N0 b) (hP : qP D N0 h H) (hS : va_S (qA N0) s.heap H locs) (hi : i + 7 ≤ L) (hL : L ≤ 449) (hn : n < 64) (j : JZ cy h x y ou fo gr n S Wo S Wo) (hp : PI gr n S Wo) (hc1 : cells ≤ C1 + t1 n + Wo.2.1.1 + qP1 Wo.2.1) (hc2 : slots ≤ C2 + t2 n + 10 * Wo.2.1.1 + qP2 Wo.2.1) (hmc : C1 + 530000 ≤ mc) (hms : C2 + 5520000 ≤ ms) (hl : lv_has ls 8 [(4, .int (nI i)), (3, .ref ou), (2, .ref y), (1, .ref x), (0, .ref b)]) (kend : ∀ (ls : Array Slot) (H : Heap) (locs : List Loc) (c1 c2 : Nat) (h : qH) (fo : Nat → Int64) (S : Nat → qSlot) (Wo : qWo), JZ cy h x y ou fo gr (n + 1) S Wo S Wo → PI gr (n + 1) S Wo → c1 ≤ C1 + t1 (n + 1) + Wo.2.1.1 + qP1 Wo.2.1 → c2 ≤ C2 + t2 (n + 1) + 10 * Wo.2.1.1 + qP2 Wo.2.1 → qP D N0 h H → va_S (qA N0) s.heap H locs → lv_has ls 8 [(4, .int (nI i)), (3, .ref ou), (2, .ref y), (1, .ref x), (0, .ref b)] → W p l e (qR 2048 84000 mc ms) s m #[Value.ref b] below meth c H locs c1 c2 Q (F0 m 2940 ls [])) : W p l e (qR 2048 84000 mc ms) s m #[Value.ref b] below meth c H locs cells slots Q (F0 m 1389 ls []) := by
  have hx := C.1
  have hb := C.2.1
  have h1L := t1_le (n + 1) (by omega)
  have h2L := t2_le (n + 1) (by omega)
  have e1L : t1 (n + 1) = t1 n + (1201 + 212 * n) := rfl
  have e2L : t2 (n + 1) = t2 n + (13300 + n * rMs n 7) := rfl
  have hb0 := hp.bnd (by omega)
  refine lv_aload_n hx hb dL_law_1389 rfl (lv_at hl 3 rfl) ?_
  refine lv_aload_n hx hb dL_law_1390 rfl (lv_at hl 4 rfl) ?_
  refine lv_iload hx hb dL_law_1391 (lv_at hl 0 rfl) ?_
  refine lv_iconst (v := nI 1) hx hb dL_law_1393 (by decide) ?_
  refine q_iaddN hx hb dL_law_1394 ?_
  refine va_sld hx hb hX hbl0 hbA hS (nI_in (by omega) (by omega)) dL_law_1395 ?_
  refine lv_topi (fun s1 es1 => ?_)
  refine lv_aload_n hx hb dL_law_1396 rfl (lv_at hl 4 rfl) ?_
  refine lv_iload hx hb dL_law_1397 (lv_at hl 0 rfl) ?_
  refine lv_iconst (v := nI 2) hx hb dL_law_1399 (by decide) ?_
  refine q_iaddN hx hb dL_law_1400 ?_
  refine va_sld hx hb hX hbl0 hbA hS (nI_in (by omega) (by omega)) dL_law_1401 ?_
  refine lv_topi (fun s2 es2 => ?_)
  refine lv_i2l hx hb dL_law_1402 rfl ?_
  refine lv_bipush (v := nI 32) hx hb dL_law_1403 (by decide) ?_
  refine lv_lshl hx hb dL_law_1405 rfl ?_
  refine lv_aload_n hx hb dL_law_1406 rfl (lv_at hl 4 rfl) ?_
  refine lv_iload hx hb dL_law_1407 (lv_at hl 0 rfl) ?_
  refine lv_iconst (v := nI 3) hx hb dL_law_1409 (by decide) ?_
  refine q_iaddN hx hb dL_law_1410 ?_
  refine va_sld hx hb hX hbl0 hbA hS (nI_in (by omega) (by omega)) dL_law_1411 ?_
  refine lv_topi (fun s3 es3 => ?_)
  refine lv_i2l hx hb dL_law_1412 rfl ?_
  refine lv_ldc2 hx hb C.2.2.2.2.1 (C.2.2.2.2.2.1 _ g1484) dL_law_1413 ?_
  refine lv_land hx hb dL_law_1416 ?_
  refine lv_lor hx hb dL_law_1417 ?_
  refine lv_topl (fun q2 eq2 => ?_)
  refine lv_aload_n hx hb dL_law_1418 rfl (lv_at hl 4 rfl) ?_
  refine lv_iload hx hb dL_law_1419 (lv_at hl 0 rfl) ?_
  refine lv_iconst (v := nI 4) hx hb dL_law_1421 (by decide) ?_
  refine q_iaddN hx hb dL_law_1422 ?_
  refine va_sld hx hb hX hbl0 hbA hS (nI_in (by omega) (by omega)) dL_law_1423 ?_
  refine lv_topi (fun s4 es4 => ?_)
  refine lv_aload_n hx hb dL_law_1424 rfl (lv_at hl 1 rfl) ?_
  have hpK : PI gr (n + 1) (S) (Wo) := hp.up
  have hbK := hpK.bnd (by omega)
  have hmo : MO Wo (Wo) := MO.rf
  have hqm := qP1_mo hmo hb0.2.2.2
  have hm1 := hmo.1
  refine q_callSW (rest := []) C (zl_near l D cy N0 h x y ou fo gr n S Wo s1 q2 s4 j hp hn) kwL_near g814 g815 hP hS (by omega) hl.1 rfl (by decide) (by omega) dL_law_1425 (fun v hh1 H locs hq hP hS => ?_)
  obtain ⟨rfl, fo1, j1, ha1⟩ := hq
  obtain ⟨fi, re, rc, rs, so, ot, cn, la, hy1⟩ := j1.yo
  refine lv_istore (lv' := [(5, .int ((xs_near S s1 q2 s4).1)), (4, .int (nI i)), (3, .ref ou), (2, .ref y), (1, .ref x), (0, .ref b)]) hx hb dL_law_1428 hl (by decide) rfl (fun ls hl => ?_)
  refine lv_aload_n hx hb dL_law_1430 rfl (lv_at hl 3 rfl) ?_
  refine lv_aload_n hx hb dL_law_1431 rfl (lv_at hl 5 rfl) ?_
  refine lv_iload hx hb dL_law_1432 (lv_at hl 1 rfl) ?_
  refine lv_iconst (v := nI 1) hx hb dL_law_1434 (by decide) ?_
  refine q_iaddN hx hb dL_law_1435 ?_
  refine va_sld hx hb hX hbl0 hbA hS (nI_in (by omega) (by omega)) dL_law_1436 ?_
  rw [← es1]
  refine lv_aload_n hx hb dL_law_1437 rfl (lv_at hl 5 rfl) ?_
  refine lv_iload hx hb dL_law_1438 (lv_at hl 1 rfl) ?_
  refine lv_iconst (v := nI 2) hx hb dL_law_1440 (by decide) ?_
  refine q_iaddN hx hb dL_law_1441 ?_
  refine va_sld hx hb hX hbl0 hbA hS (nI_in (by omega) (by omega)) dL_law_1442 ?_
  rw [← es2]
  refine lv_i2l hx hb dL_law_1443 rfl ?_
  refine lv_bipush (v := nI 32) hx hb dL_law_1444 (by decide) ?_
  refine lv_lshl hx hb dL_law_1446 rfl ?_
  refine lv_aload_n hx hb dL_law_1447 rfl (lv_at hl 5 rfl) ?_
  refine lv_iload hx hb dL_law_1448 (lv_at hl 1 rfl) ?_
  refine lv_iconst (v := nI 3) hx hb dL_law_1450 (by decide) ?_
  refine q_iaddN hx hb dL_law_1451 ?_
  refine va_sld hx hb hX hbl0 hbA hS (nI_in (by omega) (by omega)) dL_law_1452 ?_
  rw [← es3]
  refine lv_i2l hx hb dL_law_1453 rfl ?_
  refine lv_ldc2 hx hb C.2.2.2.2.1 (C.2.2.2.2.2.1 _ g1484) dL_law_1454 ?_
  refine lv_land hx hb dL_law_1457 ?_
  refine lv_lor hx hb dL_law_1458 ?_
  rw [← eq2]
  refine lv_aload_n hx hb dL_law_1459 rfl (lv_at hl 5 rfl) ?_
  refine lv_iload hx hb dL_law_1460 (lv_at hl 1 rfl) ?_
  refine lv_iconst (v := nI 4) hx hb dL_law_1462 (by decide) ?_
  refine q_iaddN hx hb dL_law_1463 ?_
  refine va_sld hx hb hX hbl0 hbA hS (nI_in (by omega) (by omega)) dL_law_1464 ?_
  rw [← es4]
  refine q_callV (rest := []) C (wl_near l D cy N0 hh1 x y ou fo1 gr n S Wo s1 q2 s4 j1 hp hn) kX8_near g1405 g1406 rfl g1407 g4 hP hS hy1 (by first | decide | omega) hl.1 rfl (by decide) (by first | decide | omega) dL_law_1465 (fun q ce E h' H1 locs1 hE => hE.elim) (fun v hh2 H locs hq hP hS => ?_)
  obtain ⟨rfl, W2, j2, p2, hcd, hw2⟩ := hq
  have hb2 : W2.2.1 = (Wo).2.1 := congrArg Prod.fst hw2
  obtain ⟨fi2, re2, rc2, rs2, so2, ot2, cn2, la2, hy2⟩ := j2.yo
  refine lv_lstore (lv' := [(6, .long ((xs_near S s1 q2 s4).2)), (5, .int ((xs_near S s1 q2 s4).1)), (4, .int (nI i)), (3, .ref ou), (2, .ref y), (1, .ref x), (0, .ref b)]) hx hb dL_law_1468 hl (by decide) rfl (fun ls hl => ?_)
  refine lv_aload_n hx hb dL_law_1470 rfl (lv_at hl 4 rfl) ?_
  refine q_callV (rest := []) C (c_X8_thrown l D cy N0 hh2 y W2.1.1 W2.1.2.1 W2.1.2.2.1 W2.1.2.2.2.1 W2.1.2.2.2.2.1 fi2 re2 rc2 rs2 so2 ot2 cn2 la2 W2.1.2.2.2.2.2.1 W2.1.2.2.2.2.2.2.1 W2.1.2.2.2.2.2.2.2.1 W2.1.2.2.2.2.2.2.2.2.1 W2.1.2.2.2.2.2.2.2.2.2.1 W2.1.2.2.2.2.2.2.2.2.2.2.1 W2.1.2.2.2.2.2.2.2.2.2.2.2.1 (nI W2.2.1.1) (nI W2.2.2.1) W2.1.2.2.2.2.2.2.2.2.2.2.2.2 hy2) kX8_thrown g1238 g1239 rfl g1240 g4 hP hS hy2 (by first | decide | omega) hl.1 rfl (by decide) (by first | decide | omega) dL_law_1471 (fun q ce E h' H1 locs1 hE => hE.elim) (fun v hh3 H locs hq hP hS => ?_)
  obtain ⟨rfl, rfl⟩ := hq
  rw [hcd]
  refine lv_iload hx hb dL_law_1474 (lv_at hl 1 rfl) ?_
  refine lv_icmp_eq (tgt := 1481) hx hb dL_law_1476 (by decide) (fun _ => ?_) (fun c9 => absurd rfl c9)
  refine lv_iload hx hb dL_law_1481 (lv_at hl 1 rfl) ?_
  refine lv_if_ne (tgt := 1497) hx hb dL_law_1483 (by decide) (fun _ => ?_) (fun hk0 => ?_)
  · refine lv_goto (tgt := 2940) hx hb dL_law_1497 (by decide) ?_
    exact kend ls H locs _ _ _ fo1 _ W2 j2 p2 (by rw [hb2]; omega) (by rw [hb2]; omega) hP hS (lv_sub hl [2, 3, 4, 5, 6] rfl)
  · refine lv_aload_n hx hb dL_law_1486 rfl (lv_at hl 3 rfl) ?_
    refine lv_iconst (v := nI 0) hx hb dL_law_1487 (by decide) ?_
    refine q_laldN C hP j2.ouf (by omega) (by omega) dL_law_1488 ?_
    refine lv_lload hx hb dL_law_1489 (lv_at hl 0 rfl) ?_
    refine W.lcmp hx hb dL_law_1491 ?_
    refine lv_if_eq (tgt := 1497) hx hb dL_law_1492 (by decide) (fun _ => ?_) (fun c9 => absurd ((lg_cmp_eq _ _).mpr (ha1 hk0)) c9)
    refine lv_goto (tgt := 2940) hx hb dL_law_1497 (by decide) ?_
    exact kend ls H locs _ _ _ fo1 _ W2 j2 p2 (by rw [hb2]; omega) (by rw [hb2]; omega) hP hS (lv_sub hl [2, 3, 4, 5, 6] rfl)
theorem dL_law_1500 : decode cL_law 1500 = .ok (.aload_n 1, 1) := by decide +kernel
theorem dL_law_1501 : decode cL_law 1501 = .ok (.aload_n 0, 1) := by decide +kernel
theorem dL_law_1502 : decode cL_law 1502 = .ok (.iload 4, 2) := by decide +kernel
theorem dL_law_1504 : decode cL_law 1504 = .ok (.iconst 1, 1) := by decide +kernel
theorem dL_law_1505 : decode cL_law 1505 = .ok (.iadd, 1) := by decide +kernel
theorem dL_law_1506 : decode cL_law 1506 = .ok (.iaload, 1) := by decide +kernel
theorem dL_law_1507 : decode cL_law 1507 = .ok (.aload_n 0, 1) := by decide +kernel
theorem dL_law_1508 : decode cL_law 1508 = .ok (.iload 4, 2) := by decide +kernel
theorem dL_law_1510 : decode cL_law 1510 = .ok (.iconst 2, 1) := by decide +kernel
theorem dL_law_1511 : decode cL_law 1511 = .ok (.iadd, 1) := by decide +kernel
theorem dL_law_1512 : decode cL_law 1512 = .ok (.iaload, 1) := by decide +kernel
theorem dL_law_1513 : decode cL_law 1513 = .ok (.aload_n 0, 1) := by decide +kernel
theorem dL_law_1514 : decode cL_law 1514 = .ok (.iload 4, 2) := by decide +kernel
theorem dL_law_1516 : decode cL_law 1516 = .ok (.iconst 3, 1) := by decide +kernel
theorem dL_law_1517 : decode cL_law 1517 = .ok (.iadd, 1) := by decide +kernel
theorem dL_law_1518 : decode cL_law 1518 = .ok (.iaload, 1) := by decide +kernel
theorem dL_law_1519 : decode cL_law 1519 = .ok (.i2l, 1) := by decide +kernel
theorem dL_law_1520 : decode cL_law 1520 = .ok (.bipush 32, 2) := by decide +kernel
theorem dL_law_1522 : decode cL_law 1522 = .ok (.lshl, 1) := by decide +kernel
theorem dL_law_1523 : decode cL_law 1523 = .ok (.aload_n 0, 1) := by decide +kernel
theorem dL_law_1524 : decode cL_law 1524 = .ok (.iload 4, 2) := by decide +kernel
theorem dL_law_1526 : decode cL_law 1526 = .ok (.iconst 4, 1) := by decide +kernel
theorem dL_law_1527 : decode cL_law 1527 = .ok (.iadd, 1) := by decide +kernel
theorem dL_law_1528 : decode cL_law 1528 = .ok (.iaload, 1) := by decide +kernel
theorem dL_law_1529 : decode cL_law 1529 = .ok (.i2l, 1) := by decide +kernel
theorem dL_law_1530 : decode cL_law 1530 = .ok (.ldc2_w 161, 3) := by decide +kernel
theorem dL_law_1533 : decode cL_law 1533 = .ok (.land, 1) := by decide +kernel
theorem dL_law_1534 : decode cL_law 1534 = .ok (.lor, 1) := by decide +kernel
theorem dL_law_1535 : decode cL_law 1535 = .ok (.aload_n 0, 1) := by decide +kernel
theorem dL_law_1536 : decode cL_law 1536 = .ok (.iload 4, 2) := by decide +kernel
theorem dL_law_1538 : decode cL_law 1538 = .ok (.iconst 5, 1) := by decide +kernel
theorem dL_law_1539 : decode cL_law 1539 = .ok (.iadd, 1) := by decide +kernel
theorem dL_law_1540 : decode cL_law 1540 = .ok (.iaload, 1) := by decide +kernel
theorem dL_law_1541 : decode cL_law 1541 = .ok (.i2l, 1) := by decide +kernel
theorem dL_law_1542 : decode cL_law 1542 = .ok (.bipush 32, 2) := by decide +kernel
theorem dL_law_1544 : decode cL_law 1544 = .ok (.lshl, 1) := by decide +kernel
theorem dL_law_1545 : decode cL_law 1545 = .ok (.aload_n 0, 1) := by decide +kernel
theorem dL_law_1546 : decode cL_law 1546 = .ok (.iload 4, 2) := by decide +kernel
theorem dL_law_1548 : decode cL_law 1548 = .ok (.bipush 6, 2) := by decide +kernel
theorem dL_law_1550 : decode cL_law 1550 = .ok (.iadd, 1) := by decide +kernel
theorem dL_law_1551 : decode cL_law 1551 = .ok (.iaload, 1) := by decide +kernel
theorem dL_law_1552 : decode cL_law 1552 = .ok (.i2l, 1) := by decide +kernel
theorem dL_law_1553 : decode cL_law 1553 = .ok (.ldc2_w 161, 3) := by decide +kernel
theorem dL_law_1556 : decode cL_law 1556 = .ok (.land, 1) := by decide +kernel
theorem dL_law_1557 : decode cL_law 1557 = .ok (.lor, 1) := by decide +kernel
theorem dL_law_1558 : decode cL_law 1558 = .ok (.aload_n 3, 1) := by decide +kernel
theorem dL_law_1559 : decode cL_law 1559 = .ok (.invokestatic 204, 3) := by decide +kernel
theorem dL_law_1562 : decode cL_law 1562 = .ok (.istore 5, 2) := by decide +kernel
theorem dL_law_1564 : decode cL_law 1564 = .ok (.aload_n 2, 1) := by decide +kernel
theorem dL_law_1565 : decode cL_law 1565 = .ok (.aload_n 0, 1) := by decide +kernel
theorem dL_law_1566 : decode cL_law 1566 = .ok (.iload 4, 2) := by decide +kernel
theorem dL_law_1568 : decode cL_law 1568 = .ok (.iconst 1, 1) := by decide +kernel
theorem dL_law_1569 : decode cL_law 1569 = .ok (.iadd, 1) := by decide +kernel
theorem dL_law_1570 : decode cL_law 1570 = .ok (.iaload, 1) := by decide +kernel
theorem dL_law_1571 : decode cL_law 1571 = .ok (.aload_n 0, 1) := by decide +kernel
theorem dL_law_1572 : decode cL_law 1572 = .ok (.iload 4, 2) := by decide +kernel
theorem dL_law_1574 : decode cL_law 1574 = .ok (.iconst 2, 1) := by decide +kernel
theorem dL_law_1575 : decode cL_law 1575 = .ok (.iadd, 1) := by decide +kernel
theorem dL_law_1576 : decode cL_law 1576 = .ok (.iaload, 1) := by decide +kernel
theorem dL_law_1577 : decode cL_law 1577 = .ok (.aload_n 0, 1) := by decide +kernel
theorem dL_law_1578 : decode cL_law 1578 = .ok (.iload 4, 2) := by decide +kernel
theorem dL_law_1580 : decode cL_law 1580 = .ok (.iconst 3, 1) := by decide +kernel
theorem dL_law_1581 : decode cL_law 1581 = .ok (.iadd, 1) := by decide +kernel
theorem dL_law_1582 : decode cL_law 1582 = .ok (.iaload, 1) := by decide +kernel
theorem dL_law_1583 : decode cL_law 1583 = .ok (.i2l, 1) := by decide +kernel
theorem dL_law_1584 : decode cL_law 1584 = .ok (.bipush 32, 2) := by decide +kernel
theorem dL_law_1586 : decode cL_law 1586 = .ok (.lshl, 1) := by decide +kernel
theorem dL_law_1587 : decode cL_law 1587 = .ok (.aload_n 0, 1) := by decide +kernel
theorem dL_law_1588 : decode cL_law 1588 = .ok (.iload 4, 2) := by decide +kernel
theorem dL_law_1590 : decode cL_law 1590 = .ok (.iconst 4, 1) := by decide +kernel
theorem dL_law_1591 : decode cL_law 1591 = .ok (.iadd, 1) := by decide +kernel
theorem dL_law_1592 : decode cL_law 1592 = .ok (.iaload, 1) := by decide +kernel
theorem dL_law_1593 : decode cL_law 1593 = .ok (.i2l, 1) := by decide +kernel
theorem dL_law_1594 : decode cL_law 1594 = .ok (.ldc2_w 161, 3) := by decide +kernel
theorem dL_law_1597 : decode cL_law 1597 = .ok (.land, 1) := by decide +kernel
theorem dL_law_1598 : decode cL_law 1598 = .ok (.lor, 1) := by decide +kernel
theorem dL_law_1599 : decode cL_law 1599 = .ok (.aload_n 0, 1) := by decide +kernel
theorem dL_law_1600 : decode cL_law 1600 = .ok (.iload 4, 2) := by decide +kernel
theorem dL_law_1602 : decode cL_law 1602 = .ok (.iconst 5, 1) := by decide +kernel
theorem dL_law_1603 : decode cL_law 1603 = .ok (.iadd, 1) := by decide +kernel
theorem dL_law_1604 : decode cL_law 1604 = .ok (.iaload, 1) := by decide +kernel
theorem dL_law_1605 : decode cL_law 1605 = .ok (.i2l, 1) := by decide +kernel
theorem dL_law_1606 : decode cL_law 1606 = .ok (.bipush 32, 2) := by decide +kernel
theorem dL_law_1608 : decode cL_law 1608 = .ok (.lshl, 1) := by decide +kernel
theorem dL_law_1609 : decode cL_law 1609 = .ok (.aload_n 0, 1) := by decide +kernel
theorem dL_law_1610 : decode cL_law 1610 = .ok (.iload 4, 2) := by decide +kernel
theorem dL_law_1612 : decode cL_law 1612 = .ok (.bipush 6, 2) := by decide +kernel
theorem dL_law_1614 : decode cL_law 1614 = .ok (.iadd, 1) := by decide +kernel
theorem dL_law_1615 : decode cL_law 1615 = .ok (.iaload, 1) := by decide +kernel
theorem dL_law_1616 : decode cL_law 1616 = .ok (.i2l, 1) := by decide +kernel
theorem dL_law_1617 : decode cL_law 1617 = .ok (.ldc2_w 161, 3) := by decide +kernel
theorem dL_law_1620 : decode cL_law 1620 = .ok (.land, 1) := by decide +kernel
theorem dL_law_1621 : decode cL_law 1621 = .ok (.lor, 1) := by decide +kernel
theorem dL_law_1622 : decode cL_law 1622 = .ok (.invokevirtual 206, 3) := by decide +kernel
theorem dL_law_1625 : decode cL_law 1625 = .ok (.istore 6, 2) := by decide +kernel
theorem dL_law_1627 : decode cL_law 1627 = .ok (.aload_n 2, 1) := by decide +kernel
theorem dL_law_1628 : decode cL_law 1628 = .ok (.invokevirtual 147, 3) := by decide +kernel
theorem dL_law_1631 : decode cL_law 1631 = .ok (.iload 5, 2) := by decide +kernel
theorem dL_law_1633 : decode cL_law 1633 = .ok (.if_icmp .eq 5, 3) := by decide +kernel
theorem dL_law_1638 : decode cL_law 1638 = .ok (.iload 5, 2) := by decide +kernel
theorem dL_law_1640 : decode cL_law 1640 = .ok (.ifCond .ne 15, 3) := by decide +kernel
theorem dL_law_1643 : decode cL_law 1643 = .ok (.aload_n 3, 1) := by decide +kernel
theorem dL_law_1644 : decode cL_law 1644 = .ok (.iconst 0, 1) := by decide +kernel
theorem dL_law_1645 : decode cL_law 1645 = .ok (.laload, 1) := by decide +kernel
theorem dL_law_1646 : decode cL_law 1646 = .ok (.iload 6, 2) := by decide +kernel
theorem dL_law_1648 : decode cL_law 1648 = .ok (.i2l, 1) := by decide +kernel
theorem dL_law_1649 : decode cL_law 1649 = .ok (.lcmp, 1) := by decide +kernel
theorem dL_law_1650 : decode cL_law 1650 = .ok (.ifCond .eq 5, 3) := by decide +kernel
theorem dL_law_1655 : decode cL_law 1655 = .ok (.goto 1285, 3) := by decide +kernel
set_option maxRecDepth 100000 in
set_option maxHeartbeats 4000000 in
theorem lc_range {p : Program} {l : Launch} {e : Env} {mc ms : Nat} {s : State} {m : MethodId} {below : List Frame} {meth : Method} {c : Code} {H : Heap} {locs : List Loc} {cells slots : Nat} {Q : State → Prop} {rt0 : Option FieldType} {nm0 : String} {D : va_G} {cy : Nat → ClassId} {N0 : Nat} {tb : List ExceptionTableEntry} {h : qH} {ls : Array Slot} {b L : Nat} {xs : Nat → Int32} {x y ou : Nat} {fo : Nat → Int64} {gr : Int32} {n i C1 C2 : Nat} {S : Nat → qSlot} {Wo : qWo} (C : qX p l s m #[Value.ref b] meth c RL cL_law 8 rt0 nm0 D cy N0 tb) (hX : va_X b L xs s s.heap) (hbl0 : b < s.heap.size) (hbA : ¬ qA N0 b) (hP : qP D N0 h H) (hS : va_S (qA N0) s.heap H locs) (hi : i + 7 ≤ L) (hL : L ≤ 449) (hn : n < 64) (j : JZ cy h x y ou fo gr n S Wo S Wo) (hp : PI gr n S Wo) (hc1 : cells ≤ C1 + t1 n + Wo.2.1.1 + qP1 Wo.2.1) (hc2 : slots ≤ C2 + t2 n + 10 * Wo.2.1.1 + qP2 Wo.2.1) (hmc : C1 + 530000 ≤ mc) (hms : C2 + 5520000 ≤ ms) (hl : lv_has ls 8 [(4, .int (nI i)), (3, .ref ou), (2, .ref y), (1, .ref x), (0, .ref b)]) (kend : ∀ (ls : Array Slot) (H : Heap) (locs : List Loc) (c1 c2 : Nat) (h : qH) (fo : Nat → Int64) (S : Nat → qSlot) (Wo : qWo), JZ cy h x y ou fo gr (n + 1) S Wo S Wo → PI gr (n + 1) S Wo → c1 ≤ C1 + t1 (n + 1) + Wo.2.1.1 + qP1 Wo.2.1 → c2 ≤ C2 + t2 (n + 1) + 10 * Wo.2.1.1 + qP2 Wo.2.1 → qP D N0 h H → va_S (qA N0) s.heap H locs → lv_has ls 8 [(4, .int (nI i)), (3, .ref ou), (2, .ref y), (1, .ref x), (0, .ref b)] → W p l e (qR 2048 84000 mc ms) s m #[Value.ref b] below meth c H locs c1 c2 Q (F0 m 2940 ls [])) : W p l e (qR 2048 84000 mc ms) s m #[Value.ref b] below meth c H locs cells slots Q (F0 m 1500 ls []) := by
  have hx := C.1
  have hb := C.2.1
  have h1L := t1_le (n + 1) (by omega)
  have h2L := t2_le (n + 1) (by omega)
  have e1L : t1 (n + 1) = t1 n + (1201 + 212 * n) := rfl
  have e2L : t2 (n + 1) = t2 n + (13300 + n * rMs n 7) := rfl
  have hb0 := hp.bnd (by omega)
  obtain ⟨m0, hm0, hm9⟩ : ∃ m, oMq Wo.1 = nI m ∧ m ≤ 20000 := by obtain ⟨K, dp, hk⟩ := id hp; obtain ⟨m, h1, h2, -⟩ := hk.hV.m; exact ⟨m, h1, h2⟩
  refine lv_aload_n hx hb dL_law_1500 rfl (lv_at hl 3 rfl) ?_
  refine lv_aload_n hx hb dL_law_1501 rfl (lv_at hl 4 rfl) ?_
  refine lv_iload hx hb dL_law_1502 (lv_at hl 0 rfl) ?_
  refine lv_iconst (v := nI 1) hx hb dL_law_1504 (by decide) ?_
  refine q_iaddN hx hb dL_law_1505 ?_
  refine va_sld hx hb hX hbl0 hbA hS (nI_in (by omega) (by omega)) dL_law_1506 ?_
  refine lv_topi (fun s1 es1 => ?_)
  refine lv_aload_n hx hb dL_law_1507 rfl (lv_at hl 4 rfl) ?_
  refine lv_iload hx hb dL_law_1508 (lv_at hl 0 rfl) ?_
  refine lv_iconst (v := nI 2) hx hb dL_law_1510 (by decide) ?_
  refine q_iaddN hx hb dL_law_1511 ?_
  refine va_sld hx hb hX hbl0 hbA hS (nI_in (by omega) (by omega)) dL_law_1512 ?_
  refine lv_topi (fun s2 es2 => ?_)
  refine lv_aload_n hx hb dL_law_1513 rfl (lv_at hl 4 rfl) ?_
  refine lv_iload hx hb dL_law_1514 (lv_at hl 0 rfl) ?_
  refine lv_iconst (v := nI 3) hx hb dL_law_1516 (by decide) ?_
  refine q_iaddN hx hb dL_law_1517 ?_
  refine va_sld hx hb hX hbl0 hbA hS (nI_in (by omega) (by omega)) dL_law_1518 ?_
  refine lv_topi (fun s3 es3 => ?_)
  refine lv_i2l hx hb dL_law_1519 rfl ?_
  refine lv_bipush (v := nI 32) hx hb dL_law_1520 (by decide) ?_
  refine lv_lshl hx hb dL_law_1522 rfl ?_
  refine lv_aload_n hx hb dL_law_1523 rfl (lv_at hl 4 rfl) ?_
  refine lv_iload hx hb dL_law_1524 (lv_at hl 0 rfl) ?_
  refine lv_iconst (v := nI 4) hx hb dL_law_1526 (by decide) ?_
  refine q_iaddN hx hb dL_law_1527 ?_
  refine va_sld hx hb hX hbl0 hbA hS (nI_in (by omega) (by omega)) dL_law_1528 ?_
  refine lv_topi (fun s4 es4 => ?_)
  refine lv_i2l hx hb dL_law_1529 rfl ?_
  refine lv_ldc2 hx hb C.2.2.2.2.1 (C.2.2.2.2.2.1 _ g1484) dL_law_1530 ?_
  refine lv_land hx hb dL_law_1533 ?_
  refine lv_lor hx hb dL_law_1534 ?_
  refine lv_topl (fun q3 eq3 => ?_)
  refine lv_aload_n hx hb dL_law_1535 rfl (lv_at hl 4 rfl) ?_
  refine lv_iload hx hb dL_law_1536 (lv_at hl 0 rfl) ?_
  refine lv_iconst (v := nI 5) hx hb dL_law_1538 (by decide) ?_
  refine q_iaddN hx hb dL_law_1539 ?_
  refine va_sld hx hb hX hbl0 hbA hS (nI_in (by omega) (by omega)) dL_law_1540 ?_
  refine lv_topi (fun s5 es5 => ?_)
  refine lv_i2l hx hb dL_law_1541 rfl ?_
  refine lv_bipush (v := nI 32) hx hb dL_law_1542 (by decide) ?_
  refine lv_lshl hx hb dL_law_1544 rfl ?_
  refine lv_aload_n hx hb dL_law_1545 rfl (lv_at hl 4 rfl) ?_
  refine lv_iload hx hb dL_law_1546 (lv_at hl 0 rfl) ?_
  refine lv_bipush (v := nI 6) hx hb dL_law_1548 (by decide) ?_
  refine q_iaddN hx hb dL_law_1550 ?_
  refine va_sld hx hb hX hbl0 hbA hS (nI_in (by omega) (by omega)) dL_law_1551 ?_
  refine lv_topi (fun s6 es6 => ?_)
  refine lv_i2l hx hb dL_law_1552 rfl ?_
  refine lv_ldc2 hx hb C.2.2.2.2.1 (C.2.2.2.2.2.1 _ g1484) dL_law_1553 ?_
  refine lv_land hx hb dL_law_1556 ?_
  refine lv_lor hx hb dL_law_1557 ?_
  refine lv_topl (fun q5 eq5 => ?_)
  refine lv_aload_n hx hb dL_law_1558 rfl (lv_at hl 1 rfl) ?_
  have hpK : PI gr (n + 1) ((xs_range S s1 s2 q3 q5 m0).2.1) ((oMv Wo.1 (nI (xs_range S s1 s2 q3 q5 m0).2.2.2), Wo.2)) := (hp.range hm0 hm9)
  have hbK := hpK.bnd (by omega)
  have hmo : MO Wo ((oMv Wo.1 (nI (xs_range S s1 s2 q3 q5 m0).2.2.2), Wo.2)) := MO.rf
  have hqm := qP1_mo hmo hb0.2.2.2
  have hm1 := hmo.1
  dsimp only at hbK
  dsimp only at hqm
  dsimp only at hm1
  refine q_callSW (rest := []) C (zl_range l D cy N0 h x y ou fo gr n S Wo m0 s1 s2 q3 q5 j hp hn hm0 hm9) kwL_range g824 g825 hP hS (by omega) hl.1 rfl (by decide) (by omega) dL_law_1559 (fun v hh1 H locs hq hP hS => ?_)
  obtain ⟨rfl, fo1, j1, ha1⟩ := hq
  obtain ⟨fi, re, rc, rs, so, ot, cn, la, hy1⟩ := j1.yo
  refine lv_istore (lv' := [(5, .int ((xs_range S s1 s2 q3 q5 m0).1)), (4, .int (nI i)), (3, .ref ou), (2, .ref y), (1, .ref x), (0, .ref b)]) hx hb dL_law_1562 hl (by decide) rfl (fun ls hl => ?_)
  refine lv_aload_n hx hb dL_law_1564 rfl (lv_at hl 3 rfl) ?_
  refine lv_aload_n hx hb dL_law_1565 rfl (lv_at hl 5 rfl) ?_
  refine lv_iload hx hb dL_law_1566 (lv_at hl 1 rfl) ?_
  refine lv_iconst (v := nI 1) hx hb dL_law_1568 (by decide) ?_
  refine q_iaddN hx hb dL_law_1569 ?_
  refine va_sld hx hb hX hbl0 hbA hS (nI_in (by omega) (by omega)) dL_law_1570 ?_
  rw [← es1]
  refine lv_aload_n hx hb dL_law_1571 rfl (lv_at hl 5 rfl) ?_
  refine lv_iload hx hb dL_law_1572 (lv_at hl 1 rfl) ?_
  refine lv_iconst (v := nI 2) hx hb dL_law_1574 (by decide) ?_
  refine q_iaddN hx hb dL_law_1575 ?_
  refine va_sld hx hb hX hbl0 hbA hS (nI_in (by omega) (by omega)) dL_law_1576 ?_
  rw [← es2]
  refine lv_aload_n hx hb dL_law_1577 rfl (lv_at hl 5 rfl) ?_
  refine lv_iload hx hb dL_law_1578 (lv_at hl 1 rfl) ?_
  refine lv_iconst (v := nI 3) hx hb dL_law_1580 (by decide) ?_
  refine q_iaddN hx hb dL_law_1581 ?_
  refine va_sld hx hb hX hbl0 hbA hS (nI_in (by omega) (by omega)) dL_law_1582 ?_
  rw [← es3]
  refine lv_i2l hx hb dL_law_1583 rfl ?_
  refine lv_bipush (v := nI 32) hx hb dL_law_1584 (by decide) ?_
  refine lv_lshl hx hb dL_law_1586 rfl ?_
  refine lv_aload_n hx hb dL_law_1587 rfl (lv_at hl 5 rfl) ?_
  refine lv_iload hx hb dL_law_1588 (lv_at hl 1 rfl) ?_
  refine lv_iconst (v := nI 4) hx hb dL_law_1590 (by decide) ?_
  refine q_iaddN hx hb dL_law_1591 ?_
  refine va_sld hx hb hX hbl0 hbA hS (nI_in (by omega) (by omega)) dL_law_1592 ?_
  rw [← es4]
  refine lv_i2l hx hb dL_law_1593 rfl ?_
  refine lv_ldc2 hx hb C.2.2.2.2.1 (C.2.2.2.2.2.1 _ g1484) dL_law_1594 ?_
  refine lv_land hx hb dL_law_1597 ?_
  refine lv_lor hx hb dL_law_1598 ?_
  rw [← eq3]
  refine lv_aload_n hx hb dL_law_1599 rfl (lv_at hl 5 rfl) ?_
  refine lv_iload hx hb dL_law_1600 (lv_at hl 1 rfl) ?_
  refine lv_iconst (v := nI 5) hx hb dL_law_1602 (by decide) ?_
  refine q_iaddN hx hb dL_law_1603 ?_
  refine va_sld hx hb hX hbl0 hbA hS (nI_in (by omega) (by omega)) dL_law_1604 ?_
  rw [← es5]
  refine lv_i2l hx hb dL_law_1605 rfl ?_
  refine lv_bipush (v := nI 32) hx hb dL_law_1606 (by decide) ?_
  refine lv_lshl hx hb dL_law_1608 rfl ?_
  refine lv_aload_n hx hb dL_law_1609 rfl (lv_at hl 5 rfl) ?_
  refine lv_iload hx hb dL_law_1610 (lv_at hl 1 rfl) ?_
  refine lv_bipush (v := nI 6) hx hb dL_law_1612 (by decide) ?_
  refine q_iaddN hx hb dL_law_1614 ?_
  refine va_sld hx hb hX hbl0 hbA hS (nI_in (by omega) (by omega)) dL_law_1615 ?_
  rw [← es6]
  refine lv_i2l hx hb dL_law_1616 rfl ?_
  refine lv_ldc2 hx hb C.2.2.2.2.1 (C.2.2.2.2.2.1 _ g1484) dL_law_1617 ?_
  refine lv_land hx hb dL_law_1620 ?_
  refine lv_lor hx hb dL_law_1621 ?_
  rw [← eq5]
  refine q_callV (rest := []) C (wl_range l D cy N0 hh1 x y ou fo1 gr n S Wo m0 s1 s2 q3 q5 j1 hp hn hm0 hm9) kX8_range g1409 g1410 rfl g1411 g4 hP hS hy1 (by first | decide | omega) hl.1 rfl (by decide) (by first | decide | omega) dL_law_1622 (fun q ce E h' H1 locs1 hE => hE.elim) (fun v hh2 H locs hq hP hS => ?_)
  obtain ⟨rfl, W2, j2, p2, hcd, hw2⟩ := hq
  have hb2 : W2.2.1 = Wo.2.1 := congrArg Prod.fst hw2
  obtain ⟨fi2, re2, rc2, rs2, so2, ot2, cn2, la2, hy2⟩ := j2.yo
  refine lv_istore (lv' := [(6, .int ((xs_range S s1 s2 q3 q5 m0).2.2.1)), (5, .int ((xs_range S s1 s2 q3 q5 m0).1)), (4, .int (nI i)), (3, .ref ou), (2, .ref y), (1, .ref x), (0, .ref b)]) hx hb dL_law_1625 hl (by decide) rfl (fun ls hl => ?_)
  refine lv_aload_n hx hb dL_law_1627 rfl (lv_at hl 4 rfl) ?_
  refine q_callV (rest := []) C (c_X8_thrown l D cy N0 hh2 y W2.1.1 W2.1.2.1 W2.1.2.2.1 W2.1.2.2.2.1 W2.1.2.2.2.2.1 fi2 re2 rc2 rs2 so2 ot2 cn2 la2 W2.1.2.2.2.2.2.1 W2.1.2.2.2.2.2.2.1 W2.1.2.2.2.2.2.2.2.1 W2.1.2.2.2.2.2.2.2.2.1 W2.1.2.2.2.2.2.2.2.2.2.1 W2.1.2.2.2.2.2.2.2.2.2.2.1 W2.1.2.2.2.2.2.2.2.2.2.2.2.1 (nI W2.2.1.1) (nI W2.2.2.1) W2.1.2.2.2.2.2.2.2.2.2.2.2.2 hy2) kX8_thrown g1238 g1239 rfl g1240 g4 hP hS hy2 (by first | decide | omega) hl.1 rfl (by decide) (by first | decide | omega) dL_law_1628 (fun q ce E h' H1 locs1 hE => hE.elim) (fun v hh3 H locs hq hP hS => ?_)
  obtain ⟨rfl, rfl⟩ := hq
  rw [hcd]
  refine lv_iload hx hb dL_law_1631 (lv_at hl 1 rfl) ?_
  refine lv_icmp_eq (tgt := 1638) hx hb dL_law_1633 (by decide) (fun _ => ?_) (fun c9 => absurd rfl c9)
  refine lv_iload hx hb dL_law_1638 (lv_at hl 1 rfl) ?_
  refine lv_if_ne (tgt := 1655) hx hb dL_law_1640 (by decide) (fun _ => ?_) (fun hk0 => ?_)
  · refine lv_goto (tgt := 2940) hx hb dL_law_1655 (by decide) ?_
    exact kend ls H locs _ _ _ fo1 _ W2 j2 p2 (by rw [hb2]; omega) (by rw [hb2]; omega) hP hS (lv_sub hl [2, 3, 4, 5, 6] rfl)
  · refine lv_aload_n hx hb dL_law_1643 rfl (lv_at hl 3 rfl) ?_
    refine lv_iconst (v := nI 0) hx hb dL_law_1644 (by decide) ?_
    refine q_laldN C hP j2.ouf (by omega) (by omega) dL_law_1645 ?_
    refine lv_iload hx hb dL_law_1646 (lv_at hl 0 rfl) ?_
    refine lv_i2l hx hb dL_law_1648 rfl ?_
    refine W.lcmp hx hb dL_law_1649 ?_
    refine lv_if_eq (tgt := 1655) hx hb dL_law_1650 (by decide) (fun _ => ?_) (fun c9 => absurd ((lg_cmp_eq _ _).mpr (ha1 hk0)) c9)
    refine lv_goto (tgt := 2940) hx hb dL_law_1655 (by decide) ?_
    exact kend ls H locs _ _ _ fo1 _ W2 j2 p2 (by rw [hb2]; omega) (by rw [hb2]; omega) hP hS (lv_sub hl [2, 3, 4, 5, 6] rfl)
theorem dL_law_1658 : decode cL_law 1658 = .ok (.aload_n 1, 1) := by decide +kernel
theorem dL_law_1659 : decode cL_law 1659 = .ok (.aload_n 0, 1) := by decide +kernel
theorem dL_law_1660 : decode cL_law 1660 = .ok (.iload 4, 2) := by decide +kernel
theorem dL_law_1662 : decode cL_law 1662 = .ok (.iconst 1, 1) := by decide +kernel
theorem dL_law_1663 : decode cL_law 1663 = .ok (.iadd, 1) := by decide +kernel
theorem dL_law_1664 : decode cL_law 1664 = .ok (.iaload, 1) := by decide +kernel
theorem dL_law_1665 : decode cL_law 1665 = .ok (.aload_n 0, 1) := by decide +kernel
theorem dL_law_1666 : decode cL_law 1666 = .ok (.iload 4, 2) := by decide +kernel
theorem dL_law_1668 : decode cL_law 1668 = .ok (.iconst 2, 1) := by decide +kernel
theorem dL_law_1669 : decode cL_law 1669 = .ok (.iadd, 1) := by decide +kernel
theorem dL_law_1670 : decode cL_law 1670 = .ok (.iaload, 1) := by decide +kernel
theorem dL_law_1671 : decode cL_law 1671 = .ok (.aload_n 0, 1) := by decide +kernel
theorem dL_law_1672 : decode cL_law 1672 = .ok (.iload 4, 2) := by decide +kernel
theorem dL_law_1674 : decode cL_law 1674 = .ok (.iconst 3, 1) := by decide +kernel
theorem dL_law_1675 : decode cL_law 1675 = .ok (.iadd, 1) := by decide +kernel
theorem dL_law_1676 : decode cL_law 1676 = .ok (.iaload, 1) := by decide +kernel
theorem dL_law_1677 : decode cL_law 1677 = .ok (.aload_n 3, 1) := by decide +kernel
theorem dL_law_1678 : decode cL_law 1678 = .ok (.invokestatic 207, 3) := by decide +kernel
theorem dL_law_1681 : decode cL_law 1681 = .ok (.istore 5, 2) := by decide +kernel
theorem dL_law_1683 : decode cL_law 1683 = .ok (.aload_n 2, 1) := by decide +kernel
theorem dL_law_1684 : decode cL_law 1684 = .ok (.aload_n 0, 1) := by decide +kernel
theorem dL_law_1685 : decode cL_law 1685 = .ok (.iload 4, 2) := by decide +kernel
theorem dL_law_1687 : decode cL_law 1687 = .ok (.iconst 1, 1) := by decide +kernel
theorem dL_law_1688 : decode cL_law 1688 = .ok (.iadd, 1) := by decide +kernel
theorem dL_law_1689 : decode cL_law 1689 = .ok (.iaload, 1) := by decide +kernel
theorem dL_law_1690 : decode cL_law 1690 = .ok (.aload_n 0, 1) := by decide +kernel
theorem dL_law_1691 : decode cL_law 1691 = .ok (.iload 4, 2) := by decide +kernel
theorem dL_law_1693 : decode cL_law 1693 = .ok (.iconst 2, 1) := by decide +kernel
theorem dL_law_1694 : decode cL_law 1694 = .ok (.iadd, 1) := by decide +kernel
theorem dL_law_1695 : decode cL_law 1695 = .ok (.iaload, 1) := by decide +kernel
theorem dL_law_1696 : decode cL_law 1696 = .ok (.aload_n 0, 1) := by decide +kernel
theorem dL_law_1697 : decode cL_law 1697 = .ok (.iload 4, 2) := by decide +kernel
theorem dL_law_1699 : decode cL_law 1699 = .ok (.iconst 3, 1) := by decide +kernel
theorem dL_law_1700 : decode cL_law 1700 = .ok (.iadd, 1) := by decide +kernel
theorem dL_law_1701 : decode cL_law 1701 = .ok (.iaload, 1) := by decide +kernel
theorem dL_law_1702 : decode cL_law 1702 = .ok (.invokevirtual 210, 3) := by decide +kernel
theorem dL_law_1705 : decode cL_law 1705 = .ok (.istore 6, 2) := by decide +kernel
theorem dL_law_1707 : decode cL_law 1707 = .ok (.aload_n 2, 1) := by decide +kernel
theorem dL_law_1708 : decode cL_law 1708 = .ok (.invokevirtual 147, 3) := by decide +kernel
theorem dL_law_1711 : decode cL_law 1711 = .ok (.iload 5, 2) := by decide +kernel
theorem dL_law_1713 : decode cL_law 1713 = .ok (.if_icmp .eq 5, 3) := by decide +kernel
theorem dL_law_1718 : decode cL_law 1718 = .ok (.iload 5, 2) := by decide +kernel
theorem dL_law_1720 : decode cL_law 1720 = .ok (.ifCond .ne 15, 3) := by decide +kernel
theorem dL_law_1723 : decode cL_law 1723 = .ok (.aload_n 3, 1) := by decide +kernel
theorem dL_law_1724 : decode cL_law 1724 = .ok (.iconst 0, 1) := by decide +kernel
theorem dL_law_1725 : decode cL_law 1725 = .ok (.laload, 1) := by decide +kernel
theorem dL_law_1726 : decode cL_law 1726 = .ok (.iload 6, 2) := by decide +kernel
theorem dL_law_1728 : decode cL_law 1728 = .ok (.i2l, 1) := by decide +kernel
theorem dL_law_1729 : decode cL_law 1729 = .ok (.lcmp, 1) := by decide +kernel
theorem dL_law_1730 : decode cL_law 1730 = .ok (.ifCond .eq 5, 3) := by decide +kernel
theorem dL_law_1735 : decode cL_law 1735 = .ok (.goto 1205, 3) := by decide +kernel
set_option maxRecDepth 100000 in
set_option maxHeartbeats 4000000 in
theorem lc_join {p : Program} {l : Launch} {e : Env} {mc ms : Nat} {s : State} {m : MethodId} {below : List Frame} {meth : Method} {c : Code} {H : Heap} {locs : List Loc} {cells slots : Nat} {Q : State → Prop} {rt0 : Option FieldType} {nm0 : String} {D : va_G} {cy : Nat → ClassId} {N0 : Nat} {tb : List ExceptionTableEntry} {h : qH} {ls : Array Slot} {b L : Nat} {xs : Nat → Int32} {x y ou : Nat} {fo : Nat → Int64} {gr : Int32} {n i C1 C2 : Nat} {S : Nat → qSlot} {Wo : qWo} (C : qX p l s m #[Value.ref b] meth c RL cL_law 8 rt0 nm0 D cy N0 tb) (hX : va_X b L xs s s.heap) (hbl0 : b < s.heap.size) (hbA : ¬ qA N0 b) (hP : qP D N0 h H) (hS : va_S (qA N0) s.heap H locs) (hi : i + 7 ≤ L) (hL : L ≤ 449) (hn : n < 64) (j : JZ cy h x y ou fo gr n S Wo S Wo) (hp : PI gr n S Wo) (hc1 : cells ≤ C1 + t1 n + Wo.2.1.1 + qP1 Wo.2.1) (hc2 : slots ≤ C2 + t2 n + 10 * Wo.2.1.1 + qP2 Wo.2.1) (hmc : C1 + 530000 ≤ mc) (hms : C2 + 5520000 ≤ ms) (hl : lv_has ls 8 [(4, .int (nI i)), (3, .ref ou), (2, .ref y), (1, .ref x), (0, .ref b)]) (kend : ∀ (ls : Array Slot) (H : Heap) (locs : List Loc) (c1 c2 : Nat) (h : qH) (fo : Nat → Int64) (S : Nat → qSlot) (Wo : qWo), JZ cy h x y ou fo gr (n + 1) S Wo S Wo → PI gr (n + 1) S Wo → c1 ≤ C1 + t1 (n + 1) + Wo.2.1.1 + qP1 Wo.2.1 → c2 ≤ C2 + t2 (n + 1) + 10 * Wo.2.1.1 + qP2 Wo.2.1 → qP D N0 h H → va_S (qA N0) s.heap H locs → lv_has ls 8 [(4, .int (nI i)), (3, .ref ou), (2, .ref y), (1, .ref x), (0, .ref b)] → W p l e (qR 2048 84000 mc ms) s m #[Value.ref b] below meth c H locs c1 c2 Q (F0 m 2940 ls [])) : W p l e (qR 2048 84000 mc ms) s m #[Value.ref b] below meth c H locs cells slots Q (F0 m 1658 ls []) := by
  have hx := C.1
  have hb := C.2.1
  have h1L := t1_le (n + 1) (by omega)
  have h2L := t2_le (n + 1) (by omega)
  have e1L : t1 (n + 1) = t1 n + (1201 + 212 * n) := rfl
  have e2L : t2 (n + 1) = t2 n + (13300 + n * rMs n 7) := rfl
  have hb0 := hp.bnd (by omega)
  refine lv_aload_n hx hb dL_law_1658 rfl (lv_at hl 3 rfl) ?_
  refine lv_aload_n hx hb dL_law_1659 rfl (lv_at hl 4 rfl) ?_
  refine lv_iload hx hb dL_law_1660 (lv_at hl 0 rfl) ?_
  refine lv_iconst (v := nI 1) hx hb dL_law_1662 (by decide) ?_
  refine q_iaddN hx hb dL_law_1663 ?_
  refine va_sld hx hb hX hbl0 hbA hS (nI_in (by omega) (by omega)) dL_law_1664 ?_
  refine lv_topi (fun s1 es1 => ?_)
  refine lv_aload_n hx hb dL_law_1665 rfl (lv_at hl 4 rfl) ?_
  refine lv_iload hx hb dL_law_1666 (lv_at hl 0 rfl) ?_
  refine lv_iconst (v := nI 2) hx hb dL_law_1668 (by decide) ?_
  refine q_iaddN hx hb dL_law_1669 ?_
  refine va_sld hx hb hX hbl0 hbA hS (nI_in (by omega) (by omega)) dL_law_1670 ?_
  refine lv_topi (fun s2 es2 => ?_)
  refine lv_aload_n hx hb dL_law_1671 rfl (lv_at hl 4 rfl) ?_
  refine lv_iload hx hb dL_law_1672 (lv_at hl 0 rfl) ?_
  refine lv_iconst (v := nI 3) hx hb dL_law_1674 (by decide) ?_
  refine q_iaddN hx hb dL_law_1675 ?_
  refine va_sld hx hb hX hbl0 hbA hS (nI_in (by omega) (by omega)) dL_law_1676 ?_
  refine lv_topi (fun s3 es3 => ?_)
  refine lv_aload_n hx hb dL_law_1677 rfl (lv_at hl 1 rfl) ?_
  have hpK : PI gr (n + 1) ((xs_join S Wo s1 s2 s3).2.2.1) ((xs_join S Wo s1 s2 s3).2.2.2) := hp.join
  have hbK := hpK.bnd (by omega)
  have hmo : MO Wo ((xs_join S Wo s1 s2 s3).2.2.2) := mo_join
  have hqm := qP1_mo hmo hb0.2.2.2
  have hm1 := hmo.1
  refine q_callSW (rest := []) C (zl_join l D cy N0 h x y ou fo gr n S Wo s1 s2 s3 j hp hn) kwL_join g833 g834 hP hS (by omega) hl.1 rfl (by decide) (by omega) dL_law_1678 (fun v hh1 H locs hq hP hS => ?_)
  obtain ⟨rfl, fo1, j1, ha1⟩ := hq
  obtain ⟨fi, re, rc, rs, so, ot, cn, la, hy1⟩ := j1.yo
  refine lv_istore (lv' := [(5, .int ((xs_join S Wo s1 s2 s3).1)), (4, .int (nI i)), (3, .ref ou), (2, .ref y), (1, .ref x), (0, .ref b)]) hx hb dL_law_1681 hl (by decide) rfl (fun ls hl => ?_)
  refine lv_aload_n hx hb dL_law_1683 rfl (lv_at hl 3 rfl) ?_
  refine lv_aload_n hx hb dL_law_1684 rfl (lv_at hl 5 rfl) ?_
  refine lv_iload hx hb dL_law_1685 (lv_at hl 1 rfl) ?_
  refine lv_iconst (v := nI 1) hx hb dL_law_1687 (by decide) ?_
  refine q_iaddN hx hb dL_law_1688 ?_
  refine va_sld hx hb hX hbl0 hbA hS (nI_in (by omega) (by omega)) dL_law_1689 ?_
  rw [← es1]
  refine lv_aload_n hx hb dL_law_1690 rfl (lv_at hl 5 rfl) ?_
  refine lv_iload hx hb dL_law_1691 (lv_at hl 1 rfl) ?_
  refine lv_iconst (v := nI 2) hx hb dL_law_1693 (by decide) ?_
  refine q_iaddN hx hb dL_law_1694 ?_
  refine va_sld hx hb hX hbl0 hbA hS (nI_in (by omega) (by omega)) dL_law_1695 ?_
  rw [← es2]
  refine lv_aload_n hx hb dL_law_1696 rfl (lv_at hl 5 rfl) ?_
  refine lv_iload hx hb dL_law_1697 (lv_at hl 1 rfl) ?_
  refine lv_iconst (v := nI 3) hx hb dL_law_1699 (by decide) ?_
  refine q_iaddN hx hb dL_law_1700 ?_
  refine va_sld hx hb hX hbl0 hbA hS (nI_in (by omega) (by omega)) dL_law_1701 ?_
  rw [← es3]
  refine q_callV (rest := []) C (wl_join l D cy N0 hh1 x y ou fo1 gr n S Wo s1 s2 s3 j1 hp hn) kX8_join g1417 g1418 rfl g1419 g4 hP hS hy1 (by first | decide | omega) hl.1 rfl (by decide) (by first | decide | omega) dL_law_1702 (fun q ce E h' H1 locs1 hE => hE.elim) (fun v hh2 H locs hq hP hS => ?_)
  obtain ⟨rfl, W2, j2, p2, hcd, hw2⟩ := hq
  have hb2 : W2.2.1 = ((xs_join S Wo s1 s2 s3).2.2.2).2.1 := congrArg Prod.fst hw2
  obtain ⟨fi2, re2, rc2, rs2, so2, ot2, cn2, la2, hy2⟩ := j2.yo
  refine lv_istore (lv' := [(6, .int ((xs_join S Wo s1 s2 s3).2.1)), (5, .int ((xs_join S Wo s1 s2 s3).1)), (4, .int (nI i)), (3, .ref ou), (2, .ref y), (1, .ref x), (0, .ref b)]) hx hb dL_law_1705 hl (by decide) rfl (fun ls hl => ?_)
  refine lv_aload_n hx hb dL_law_1707 rfl (lv_at hl 4 rfl) ?_
  refine q_callV (rest := []) C (c_X8_thrown l D cy N0 hh2 y W2.1.1 W2.1.2.1 W2.1.2.2.1 W2.1.2.2.2.1 W2.1.2.2.2.2.1 fi2 re2 rc2 rs2 so2 ot2 cn2 la2 W2.1.2.2.2.2.2.1 W2.1.2.2.2.2.2.2.1 W2.1.2.2.2.2.2.2.2.1 W2.1.2.2.2.2.2.2.2.2.1 W2.1.2.2.2.2.2.2.2.2.2.1 W2.1.2.2.2.2.2.2.2.2.2.2.1 W2.1.2.2.2.2.2.2.2.2.2.2.2.1 (nI W2.2.1.1) (nI W2.2.2.1) W2.1.2.2.2.2.2.2.2.2.2.2.2.2 hy2) kX8_thrown g1238 g1239 rfl g1240 g4 hP hS hy2 (by first | decide | omega) hl.1 rfl (by decide) (by first | decide | omega) dL_law_1708 (fun q ce E h' H1 locs1 hE => hE.elim) (fun v hh3 H locs hq hP hS => ?_)
  obtain ⟨rfl, rfl⟩ := hq
  rw [hcd]
  refine lv_iload hx hb dL_law_1711 (lv_at hl 1 rfl) ?_
  refine lv_icmp_eq (tgt := 1718) hx hb dL_law_1713 (by decide) (fun _ => ?_) (fun c9 => absurd rfl c9)
  refine lv_iload hx hb dL_law_1718 (lv_at hl 1 rfl) ?_
  refine lv_if_ne (tgt := 1735) hx hb dL_law_1720 (by decide) (fun _ => ?_) (fun hk0 => ?_)
  · refine lv_goto (tgt := 2940) hx hb dL_law_1735 (by decide) ?_
    exact kend ls H locs _ _ _ fo1 _ W2 j2 p2 (by rw [hb2]; omega) (by rw [hb2]; omega) hP hS (lv_sub hl [2, 3, 4, 5, 6] rfl)
  · refine lv_aload_n hx hb dL_law_1723 rfl (lv_at hl 3 rfl) ?_
    refine lv_iconst (v := nI 0) hx hb dL_law_1724 (by decide) ?_
    refine q_laldN C hP j2.ouf (by omega) (by omega) dL_law_1725 ?_
    refine lv_iload hx hb dL_law_1726 (lv_at hl 0 rfl) ?_
    refine lv_i2l hx hb dL_law_1728 rfl ?_
    refine W.lcmp hx hb dL_law_1729 ?_
    refine lv_if_eq (tgt := 1735) hx hb dL_law_1730 (by decide) (fun _ => ?_) (fun c9 => absurd ((lg_cmp_eq _ _).mpr (ha1 hk0)) c9)
    refine lv_goto (tgt := 2940) hx hb dL_law_1735 (by decide) ?_
    exact kend ls H locs _ _ _ fo1 _ W2 j2 p2 (by rw [hb2]; omega) (by rw [hb2]; omega) hP hS (lv_sub hl [2, 3, 4, 5, 6] rfl)
theorem dL_law_1738 : decode cL_law 1738 = .ok (.aload_n 1, 1) := by decide +kernel
theorem dL_law_1739 : decode cL_law 1739 = .ok (.aload_n 0, 1) := by decide +kernel
theorem dL_law_1740 : decode cL_law 1740 = .ok (.iload 4, 2) := by decide +kernel
theorem dL_law_1742 : decode cL_law 1742 = .ok (.iconst 1, 1) := by decide +kernel
theorem dL_law_1743 : decode cL_law 1743 = .ok (.iadd, 1) := by decide +kernel
theorem dL_law_1744 : decode cL_law 1744 = .ok (.iaload, 1) := by decide +kernel
theorem dL_law_1745 : decode cL_law 1745 = .ok (.aload_n 0, 1) := by decide +kernel
theorem dL_law_1746 : decode cL_law 1746 = .ok (.iload 4, 2) := by decide +kernel
theorem dL_law_1748 : decode cL_law 1748 = .ok (.iconst 2, 1) := by decide +kernel
theorem dL_law_1749 : decode cL_law 1749 = .ok (.iadd, 1) := by decide +kernel
theorem dL_law_1750 : decode cL_law 1750 = .ok (.iaload, 1) := by decide +kernel
theorem dL_law_1751 : decode cL_law 1751 = .ok (.aload_n 0, 1) := by decide +kernel
theorem dL_law_1752 : decode cL_law 1752 = .ok (.iload 4, 2) := by decide +kernel
theorem dL_law_1754 : decode cL_law 1754 = .ok (.iconst 3, 1) := by decide +kernel
theorem dL_law_1755 : decode cL_law 1755 = .ok (.iadd, 1) := by decide +kernel
theorem dL_law_1756 : decode cL_law 1756 = .ok (.iaload, 1) := by decide +kernel
theorem dL_law_1757 : decode cL_law 1757 = .ok (.aload_n 0, 1) := by decide +kernel
theorem dL_law_1758 : decode cL_law 1758 = .ok (.iload 4, 2) := by decide +kernel
theorem dL_law_1760 : decode cL_law 1760 = .ok (.iconst 4, 1) := by decide +kernel
theorem dL_law_1761 : decode cL_law 1761 = .ok (.iadd, 1) := by decide +kernel
theorem dL_law_1762 : decode cL_law 1762 = .ok (.iaload, 1) := by decide +kernel
theorem dL_law_1763 : decode cL_law 1763 = .ok (.ifCond .eq 7, 3) := by decide +kernel
theorem dL_law_1766 : decode cL_law 1766 = .ok (.iconst 1, 1) := by decide +kernel
theorem dL_law_1767 : decode cL_law 1767 = .ok (.goto 4, 3) := by decide +kernel
theorem dL_law_1770 : decode cL_law 1770 = .ok (.iconst 0, 1) := by decide +kernel
theorem dL_law_1771 : decode cL_law 1771 = .ok (.aload_n 3, 1) := by decide +kernel
theorem dL_law_1772 : decode cL_law 1772 = .ok (.invokestatic 211, 3) := by decide +kernel
theorem dL_law_1775 : decode cL_law 1775 = .ok (.istore 5, 2) := by decide +kernel
theorem dL_law_1777 : decode cL_law 1777 = .ok (.aload_n 2, 1) := by decide +kernel
theorem dL_law_1778 : decode cL_law 1778 = .ok (.aload_n 0, 1) := by decide +kernel
theorem dL_law_1779 : decode cL_law 1779 = .ok (.iload 4, 2) := by decide +kernel
theorem dL_law_1781 : decode cL_law 1781 = .ok (.iconst 1, 1) := by decide +kernel
theorem dL_law_1782 : decode cL_law 1782 = .ok (.iadd, 1) := by decide +kernel
theorem dL_law_1783 : decode cL_law 1783 = .ok (.iaload, 1) := by decide +kernel
theorem dL_law_1784 : decode cL_law 1784 = .ok (.aload_n 0, 1) := by decide +kernel
theorem dL_law_1785 : decode cL_law 1785 = .ok (.iload 4, 2) := by decide +kernel
theorem dL_law_1787 : decode cL_law 1787 = .ok (.iconst 2, 1) := by decide +kernel
theorem dL_law_1788 : decode cL_law 1788 = .ok (.iadd, 1) := by decide +kernel
theorem dL_law_1789 : decode cL_law 1789 = .ok (.iaload, 1) := by decide +kernel
theorem dL_law_1790 : decode cL_law 1790 = .ok (.aload_n 0, 1) := by decide +kernel
theorem dL_law_1791 : decode cL_law 1791 = .ok (.iload 4, 2) := by decide +kernel
theorem dL_law_1793 : decode cL_law 1793 = .ok (.iconst 3, 1) := by decide +kernel
theorem dL_law_1794 : decode cL_law 1794 = .ok (.iadd, 1) := by decide +kernel
theorem dL_law_1795 : decode cL_law 1795 = .ok (.iaload, 1) := by decide +kernel
theorem dL_law_1796 : decode cL_law 1796 = .ok (.aload_n 0, 1) := by decide +kernel
theorem dL_law_1797 : decode cL_law 1797 = .ok (.iload 4, 2) := by decide +kernel
theorem dL_law_1799 : decode cL_law 1799 = .ok (.iconst 4, 1) := by decide +kernel
theorem dL_law_1800 : decode cL_law 1800 = .ok (.iadd, 1) := by decide +kernel
theorem dL_law_1801 : decode cL_law 1801 = .ok (.iaload, 1) := by decide +kernel
theorem dL_law_1802 : decode cL_law 1802 = .ok (.ifCond .eq 7, 3) := by decide +kernel
theorem dL_law_1805 : decode cL_law 1805 = .ok (.iconst 1, 1) := by decide +kernel
theorem dL_law_1806 : decode cL_law 1806 = .ok (.goto 4, 3) := by decide +kernel
theorem dL_law_1809 : decode cL_law 1809 = .ok (.iconst 0, 1) := by decide +kernel
theorem dL_law_1810 : decode cL_law 1810 = .ok (.invokevirtual 213, 3) := by decide +kernel
theorem dL_law_1813 : decode cL_law 1813 = .ok (.istore 6, 2) := by decide +kernel
theorem dL_law_1815 : decode cL_law 1815 = .ok (.aload_n 2, 1) := by decide +kernel
theorem dL_law_1816 : decode cL_law 1816 = .ok (.invokevirtual 147, 3) := by decide +kernel
theorem dL_law_1819 : decode cL_law 1819 = .ok (.iload 5, 2) := by decide +kernel
theorem dL_law_1821 : decode cL_law 1821 = .ok (.if_icmp .eq 5, 3) := by decide +kernel
theorem dL_law_1826 : decode cL_law 1826 = .ok (.iload 5, 2) := by decide +kernel
theorem dL_law_1828 : decode cL_law 1828 = .ok (.ifCond .ne 15, 3) := by decide +kernel
theorem dL_law_1831 : decode cL_law 1831 = .ok (.aload_n 3, 1) := by decide +kernel
theorem dL_law_1832 : decode cL_law 1832 = .ok (.iconst 0, 1) := by decide +kernel
theorem dL_law_1833 : decode cL_law 1833 = .ok (.laload, 1) := by decide +kernel
theorem dL_law_1834 : decode cL_law 1834 = .ok (.iload 6, 2) := by decide +kernel
theorem dL_law_1836 : decode cL_law 1836 = .ok (.i2l, 1) := by decide +kernel
theorem dL_law_1837 : decode cL_law 1837 = .ok (.lcmp, 1) := by decide +kernel
theorem dL_law_1838 : decode cL_law 1838 = .ok (.ifCond .eq 5, 3) := by decide +kernel
theorem dL_law_1843 : decode cL_law 1843 = .ok (.goto 1097, 3) := by decide +kernel
set_option maxRecDepth 100000 in
set_option maxHeartbeats 4000000 in
theorem lc_meet {p : Program} {l : Launch} {e : Env} {mc ms : Nat} {s : State} {m : MethodId} {below : List Frame} {meth : Method} {c : Code} {H : Heap} {locs : List Loc} {cells slots : Nat} {Q : State → Prop} {rt0 : Option FieldType} {nm0 : String} {D : va_G} {cy : Nat → ClassId} {N0 : Nat} {tb : List ExceptionTableEntry} {h : qH} {ls : Array Slot} {b L : Nat} {xs : Nat → Int32} {x y ou : Nat} {fo : Nat → Int64} {gr : Int32} {n i C1 C2 : Nat} {S : Nat → qSlot} {Wo : qWo} (C : qX p l s m #[Value.ref b] meth c RL cL_law 8 rt0 nm0 D cy N0 tb) (hX : va_X b L xs s s.heap) (hbl0 : b < s.heap.size) (hbA : ¬ qA N0 b) (hP : qP D N0 h H) (hS : va_S (qA N0) s.heap H locs) (hi : i + 7 ≤ L) (hL : L ≤ 449) (hn : n < 64) (j : JZ cy h x y ou fo gr n S Wo S Wo) (hp : PI gr n S Wo) (hc1 : cells ≤ C1 + t1 n + Wo.2.1.1 + qP1 Wo.2.1) (hc2 : slots ≤ C2 + t2 n + 10 * Wo.2.1.1 + qP2 Wo.2.1) (hmc : C1 + 530000 ≤ mc) (hms : C2 + 5520000 ≤ ms) (hl : lv_has ls 8 [(4, .int (nI i)), (3, .ref ou), (2, .ref y), (1, .ref x), (0, .ref b)]) (kend : ∀ (ls : Array Slot) (H : Heap) (locs : List Loc) (c1 c2 : Nat) (h : qH) (fo : Nat → Int64) (S : Nat → qSlot) (Wo : qWo), JZ cy h x y ou fo gr (n + 1) S Wo S Wo → PI gr (n + 1) S Wo → c1 ≤ C1 + t1 (n + 1) + Wo.2.1.1 + qP1 Wo.2.1 → c2 ≤ C2 + t2 (n + 1) + 10 * Wo.2.1.1 + qP2 Wo.2.1 → qP D N0 h H → va_S (qA N0) s.heap H locs → lv_has ls 8 [(4, .int (nI i)), (3, .ref ou), (2, .ref y), (1, .ref x), (0, .ref b)] → W p l e (qR 2048 84000 mc ms) s m #[Value.ref b] below meth c H locs c1 c2 Q (F0 m 2940 ls [])) : W p l e (qR 2048 84000 mc ms) s m #[Value.ref b] below meth c H locs cells slots Q (F0 m 1738 ls []) := by
  have hx := C.1
  have hb := C.2.1
  have h1L := t1_le (n + 1) (by omega)
  have h2L := t2_le (n + 1) (by omega)
  have e1L : t1 (n + 1) = t1 n + (1201 + 212 * n) := rfl
  have e2L : t2 (n + 1) = t2 n + (13300 + n * rMs n 7) := rfl
  have hb0 := hp.bnd (by omega)
  obtain ⟨m0, hm0, hm9⟩ : ∃ m, oMq Wo.1 = nI m ∧ m ≤ 20000 := by obtain ⟨K, dp, hk⟩ := id hp; obtain ⟨m, h1, h2, -⟩ := hk.hV.m; exact ⟨m, h1, h2⟩
  refine lv_aload_n hx hb dL_law_1738 rfl (lv_at hl 3 rfl) ?_
  refine lv_aload_n hx hb dL_law_1739 rfl (lv_at hl 4 rfl) ?_
  refine lv_iload hx hb dL_law_1740 (lv_at hl 0 rfl) ?_
  refine lv_iconst (v := nI 1) hx hb dL_law_1742 (by decide) ?_
  refine q_iaddN hx hb dL_law_1743 ?_
  refine va_sld hx hb hX hbl0 hbA hS (nI_in (by omega) (by omega)) dL_law_1744 ?_
  refine lv_topi (fun s1 es1 => ?_)
  refine lv_aload_n hx hb dL_law_1745 rfl (lv_at hl 4 rfl) ?_
  refine lv_iload hx hb dL_law_1746 (lv_at hl 0 rfl) ?_
  refine lv_iconst (v := nI 2) hx hb dL_law_1748 (by decide) ?_
  refine q_iaddN hx hb dL_law_1749 ?_
  refine va_sld hx hb hX hbl0 hbA hS (nI_in (by omega) (by omega)) dL_law_1750 ?_
  refine lv_topi (fun s2 es2 => ?_)
  refine lv_aload_n hx hb dL_law_1751 rfl (lv_at hl 4 rfl) ?_
  refine lv_iload hx hb dL_law_1752 (lv_at hl 0 rfl) ?_
  refine lv_iconst (v := nI 3) hx hb dL_law_1754 (by decide) ?_
  refine q_iaddN hx hb dL_law_1755 ?_
  refine va_sld hx hb hX hbl0 hbA hS (nI_in (by omega) (by omega)) dL_law_1756 ?_
  refine lv_topi (fun s3 es3 => ?_)
  refine lv_aload_n hx hb dL_law_1757 rfl (lv_at hl 4 rfl) ?_
  refine lv_iload hx hb dL_law_1758 (lv_at hl 0 rfl) ?_
  refine lv_iconst (v := nI 4) hx hb dL_law_1760 (by decide) ?_
  refine q_iaddN hx hb dL_law_1761 ?_
  refine va_sld hx hb hX hbl0 hbA hS (nI_in (by omega) (by omega)) dL_law_1762 ?_
  refine lv_topi (fun s4 es4 => ?_)
  by_cases hbz : s4 = 0
  · refine lv_if_eq (tgt := 1770) hx hb dL_law_1763 (by decide) (fun _ => ?_) (fun c9 => absurd hbz c9)
    refine lv_iconst (v := nI 0) hx hb dL_law_1770 (by decide) ?_
    refine lv_aload_n hx hb dL_law_1771 rfl (lv_at hl 1 rfl) ?_
    have hpK : PI gr (n + 1) ((xs_meet S s1 s2 s3 (nI 0) m0).2.1) ((oMv Wo.1 (nI (xs_meet S s1 s2 s3 (nI 0) m0).2.2.2), Wo.2)) := (hp.meet hm0 hm9)
    have hbK := hpK.bnd (by omega)
    have hmo : MO Wo ((oMv Wo.1 (nI (xs_meet S s1 s2 s3 (nI 0) m0).2.2.2), Wo.2)) := MO.rf
    have hqm := qP1_mo hmo hb0.2.2.2
    have hm1 := hmo.1
    dsimp only at hbK
    dsimp only at hqm
    dsimp only at hm1
    refine q_callSW (rest := []) C (zl_meet l D cy N0 h x y ou fo gr n S Wo m0 s1 s2 s3 (nI 0) j hp hn hm0 hm9) kwL_meet g878 g879 hP hS (by omega) hl.1 rfl (by decide) (by omega) dL_law_1772 (fun v hh1 H locs hq hP hS => ?_)
    obtain ⟨rfl, fo1, j1, ha1⟩ := hq
    obtain ⟨fi, re, rc, rs, so, ot, cn, la, hy1⟩ := j1.yo
    refine lv_istore (lv' := [(5, .int ((xs_meet S s1 s2 s3 (nI 0) m0).1)), (4, .int (nI i)), (3, .ref ou), (2, .ref y), (1, .ref x), (0, .ref b)]) hx hb dL_law_1775 hl (by decide) rfl (fun ls hl => ?_)
    refine lv_aload_n hx hb dL_law_1777 rfl (lv_at hl 3 rfl) ?_
    refine lv_aload_n hx hb dL_law_1778 rfl (lv_at hl 5 rfl) ?_
    refine lv_iload hx hb dL_law_1779 (lv_at hl 1 rfl) ?_
    refine lv_iconst (v := nI 1) hx hb dL_law_1781 (by decide) ?_
    refine q_iaddN hx hb dL_law_1782 ?_
    refine va_sld hx hb hX hbl0 hbA hS (nI_in (by omega) (by omega)) dL_law_1783 ?_
    rw [← es1]
    refine lv_aload_n hx hb dL_law_1784 rfl (lv_at hl 5 rfl) ?_
    refine lv_iload hx hb dL_law_1785 (lv_at hl 1 rfl) ?_
    refine lv_iconst (v := nI 2) hx hb dL_law_1787 (by decide) ?_
    refine q_iaddN hx hb dL_law_1788 ?_
    refine va_sld hx hb hX hbl0 hbA hS (nI_in (by omega) (by omega)) dL_law_1789 ?_
    rw [← es2]
    refine lv_aload_n hx hb dL_law_1790 rfl (lv_at hl 5 rfl) ?_
    refine lv_iload hx hb dL_law_1791 (lv_at hl 1 rfl) ?_
    refine lv_iconst (v := nI 3) hx hb dL_law_1793 (by decide) ?_
    refine q_iaddN hx hb dL_law_1794 ?_
    refine va_sld hx hb hX hbl0 hbA hS (nI_in (by omega) (by omega)) dL_law_1795 ?_
    rw [← es3]
    refine lv_aload_n hx hb dL_law_1796 rfl (lv_at hl 5 rfl) ?_
    refine lv_iload hx hb dL_law_1797 (lv_at hl 1 rfl) ?_
    refine lv_iconst (v := nI 4) hx hb dL_law_1799 (by decide) ?_
    refine q_iaddN hx hb dL_law_1800 ?_
    refine va_sld hx hb hX hbl0 hbA hS (nI_in (by omega) (by omega)) dL_law_1801 ?_
    rw [← es4]
    refine lv_if_eq (tgt := 1809) hx hb dL_law_1802 (by decide) (fun _ => ?_) (fun c9 => absurd hbz c9)
    refine lv_iconst (v := nI 0) hx hb dL_law_1809 (by decide) ?_
    refine q_callV (rest := []) C (wl_meet l D cy N0 hh1 x y ou fo1 gr n S Wo m0 s1 s2 s3 (nI 0) j1 hp hn hm0 hm9) kX8_meet g1421 g1422 rfl g1423 g4 hP hS hy1 (by first | decide | omega) hl.1 rfl (by decide) (by first | decide | omega) dL_law_1810 (fun q ce E h' H1 locs1 hE => hE.elim) (fun v hh2 H locs hq hP hS => ?_)
    obtain ⟨rfl, W2, j2, p2, hcd, hw2⟩ := hq
    have hb2 : W2.2.1 = Wo.2.1 := congrArg Prod.fst hw2
    obtain ⟨fi2, re2, rc2, rs2, so2, ot2, cn2, la2, hy2⟩ := j2.yo
    refine lv_istore (lv' := [(6, .int ((xs_meet S s1 s2 s3 (nI 0) m0).2.2.1)), (5, .int ((xs_meet S s1 s2 s3 (nI 0) m0).1)), (4, .int (nI i)), (3, .ref ou), (2, .ref y), (1, .ref x), (0, .ref b)]) hx hb dL_law_1813 hl (by decide) rfl (fun ls hl => ?_)
    refine lv_aload_n hx hb dL_law_1815 rfl (lv_at hl 4 rfl) ?_
    refine q_callV (rest := []) C (c_X8_thrown l D cy N0 hh2 y W2.1.1 W2.1.2.1 W2.1.2.2.1 W2.1.2.2.2.1 W2.1.2.2.2.2.1 fi2 re2 rc2 rs2 so2 ot2 cn2 la2 W2.1.2.2.2.2.2.1 W2.1.2.2.2.2.2.2.1 W2.1.2.2.2.2.2.2.2.1 W2.1.2.2.2.2.2.2.2.2.1 W2.1.2.2.2.2.2.2.2.2.2.1 W2.1.2.2.2.2.2.2.2.2.2.2.1 W2.1.2.2.2.2.2.2.2.2.2.2.2.1 (nI W2.2.1.1) (nI W2.2.2.1) W2.1.2.2.2.2.2.2.2.2.2.2.2.2 hy2) kX8_thrown g1238 g1239 rfl g1240 g4 hP hS hy2 (by first | decide | omega) hl.1 rfl (by decide) (by first | decide | omega) dL_law_1816 (fun q ce E h' H1 locs1 hE => hE.elim) (fun v hh3 H locs hq hP hS => ?_)
    obtain ⟨rfl, rfl⟩ := hq
    rw [hcd]
    refine lv_iload hx hb dL_law_1819 (lv_at hl 1 rfl) ?_
    refine lv_icmp_eq (tgt := 1826) hx hb dL_law_1821 (by decide) (fun _ => ?_) (fun c9 => absurd rfl c9)
    refine lv_iload hx hb dL_law_1826 (lv_at hl 1 rfl) ?_
    refine lv_if_ne (tgt := 1843) hx hb dL_law_1828 (by decide) (fun _ => ?_) (fun hk0 => ?_)
    · refine lv_goto (tgt := 2940) hx hb dL_law_1843 (by decide) ?_
      exact kend ls H locs _ _ _ fo1 _ W2 j2 p2 (by rw [hb2]; omega) (by rw [hb2]; omega) hP hS (lv_sub hl [2, 3, 4, 5, 6] rfl)
    · refine lv_aload_n hx hb dL_law_1831 rfl (lv_at hl 3 rfl) ?_
      refine lv_iconst (v := nI 0) hx hb dL_law_1832 (by decide) ?_
      refine q_laldN C hP j2.ouf (by omega) (by omega) dL_law_1833 ?_
      refine lv_iload hx hb dL_law_1834 (lv_at hl 0 rfl) ?_
      refine lv_i2l hx hb dL_law_1836 rfl ?_
      refine W.lcmp hx hb dL_law_1837 ?_
      refine lv_if_eq (tgt := 1843) hx hb dL_law_1838 (by decide) (fun _ => ?_) (fun c9 => absurd ((lg_cmp_eq _ _).mpr (ha1 hk0)) c9)
      refine lv_goto (tgt := 2940) hx hb dL_law_1843 (by decide) ?_
      exact kend ls H locs _ _ _ fo1 _ W2 j2 p2 (by rw [hb2]; omega) (by rw [hb2]; omega) hP hS (lv_sub hl [2, 3, 4, 5, 6] rfl)
  · refine lv_if_eq (tgt := 1770) hx hb dL_law_1763 (by decide) (fun c9 => absurd c9 hbz) (fun _ => ?_)
    refine lv_iconst (v := nI 1) hx hb dL_law_1766 (by decide) ?_
    refine lv_goto (tgt := 1771) hx hb dL_law_1767 (by decide) ?_
    refine lv_aload_n hx hb dL_law_1771 rfl (lv_at hl 1 rfl) ?_
    have hpK : PI gr (n + 1) ((xs_meet S s1 s2 s3 (nI 1) m0).2.1) ((oMv Wo.1 (nI (xs_meet S s1 s2 s3 (nI 1) m0).2.2.2), Wo.2)) := (hp.meet hm0 hm9)
    have hbK := hpK.bnd (by omega)
    have hmo : MO Wo ((oMv Wo.1 (nI (xs_meet S s1 s2 s3 (nI 1) m0).2.2.2), Wo.2)) := MO.rf
    have hqm := qP1_mo hmo hb0.2.2.2
    have hm1 := hmo.1
    dsimp only at hbK
    dsimp only at hqm
    dsimp only at hm1
    refine q_callSW (rest := []) C (zl_meet l D cy N0 h x y ou fo gr n S Wo m0 s1 s2 s3 (nI 1) j hp hn hm0 hm9) kwL_meet g878 g879 hP hS (by omega) hl.1 rfl (by decide) (by omega) dL_law_1772 (fun v hh4 H locs hq hP hS => ?_)
    obtain ⟨rfl, fo1, j1, ha1⟩ := hq
    obtain ⟨fi, re, rc, rs, so, ot, cn, la, hy1⟩ := j1.yo
    refine lv_istore (lv' := [(5, .int ((xs_meet S s1 s2 s3 (nI 1) m0).1)), (4, .int (nI i)), (3, .ref ou), (2, .ref y), (1, .ref x), (0, .ref b)]) hx hb dL_law_1775 hl (by decide) rfl (fun ls hl => ?_)
    refine lv_aload_n hx hb dL_law_1777 rfl (lv_at hl 3 rfl) ?_
    refine lv_aload_n hx hb dL_law_1778 rfl (lv_at hl 5 rfl) ?_
    refine lv_iload hx hb dL_law_1779 (lv_at hl 1 rfl) ?_
    refine lv_iconst (v := nI 1) hx hb dL_law_1781 (by decide) ?_
    refine q_iaddN hx hb dL_law_1782 ?_
    refine va_sld hx hb hX hbl0 hbA hS (nI_in (by omega) (by omega)) dL_law_1783 ?_
    rw [← es1]
    refine lv_aload_n hx hb dL_law_1784 rfl (lv_at hl 5 rfl) ?_
    refine lv_iload hx hb dL_law_1785 (lv_at hl 1 rfl) ?_
    refine lv_iconst (v := nI 2) hx hb dL_law_1787 (by decide) ?_
    refine q_iaddN hx hb dL_law_1788 ?_
    refine va_sld hx hb hX hbl0 hbA hS (nI_in (by omega) (by omega)) dL_law_1789 ?_
    rw [← es2]
    refine lv_aload_n hx hb dL_law_1790 rfl (lv_at hl 5 rfl) ?_
    refine lv_iload hx hb dL_law_1791 (lv_at hl 1 rfl) ?_
    refine lv_iconst (v := nI 3) hx hb dL_law_1793 (by decide) ?_
    refine q_iaddN hx hb dL_law_1794 ?_
    refine va_sld hx hb hX hbl0 hbA hS (nI_in (by omega) (by omega)) dL_law_1795 ?_
    rw [← es3]
    refine lv_aload_n hx hb dL_law_1796 rfl (lv_at hl 5 rfl) ?_
    refine lv_iload hx hb dL_law_1797 (lv_at hl 1 rfl) ?_
    refine lv_iconst (v := nI 4) hx hb dL_law_1799 (by decide) ?_
    refine q_iaddN hx hb dL_law_1800 ?_
    refine va_sld hx hb hX hbl0 hbA hS (nI_in (by omega) (by omega)) dL_law_1801 ?_
    rw [← es4]
    refine lv_if_eq (tgt := 1809) hx hb dL_law_1802 (by decide) (fun c9 => absurd c9 hbz) (fun _ => ?_)
    refine lv_iconst (v := nI 1) hx hb dL_law_1805 (by decide) ?_
    refine lv_goto (tgt := 1810) hx hb dL_law_1806 (by decide) ?_
    refine q_callV (rest := []) C (wl_meet l D cy N0 hh4 x y ou fo1 gr n S Wo m0 s1 s2 s3 (nI 1) j1 hp hn hm0 hm9) kX8_meet g1421 g1422 rfl g1423 g4 hP hS hy1 (by first | decide | omega) hl.1 rfl (by decide) (by first | decide | omega) dL_law_1810 (fun q ce E h' H1 locs1 hE => hE.elim) (fun v hh5 H locs hq hP hS => ?_)
    obtain ⟨rfl, W2, j2, p2, hcd, hw2⟩ := hq
    have hb2 : W2.2.1 = Wo.2.1 := congrArg Prod.fst hw2
    obtain ⟨fi2, re2, rc2, rs2, so2, ot2, cn2, la2, hy2⟩ := j2.yo
    refine lv_istore (lv' := [(6, .int ((xs_meet S s1 s2 s3 (nI 1) m0).2.2.1)), (5, .int ((xs_meet S s1 s2 s3 (nI 1) m0).1)), (4, .int (nI i)), (3, .ref ou), (2, .ref y), (1, .ref x), (0, .ref b)]) hx hb dL_law_1813 hl (by decide) rfl (fun ls hl => ?_)
    refine lv_aload_n hx hb dL_law_1815 rfl (lv_at hl 4 rfl) ?_
    refine q_callV (rest := []) C (c_X8_thrown l D cy N0 hh5 y W2.1.1 W2.1.2.1 W2.1.2.2.1 W2.1.2.2.2.1 W2.1.2.2.2.2.1 fi2 re2 rc2 rs2 so2 ot2 cn2 la2 W2.1.2.2.2.2.2.1 W2.1.2.2.2.2.2.2.1 W2.1.2.2.2.2.2.2.2.1 W2.1.2.2.2.2.2.2.2.2.1 W2.1.2.2.2.2.2.2.2.2.2.1 W2.1.2.2.2.2.2.2.2.2.2.2.1 W2.1.2.2.2.2.2.2.2.2.2.2.2.1 (nI W2.2.1.1) (nI W2.2.2.1) W2.1.2.2.2.2.2.2.2.2.2.2.2.2 hy2) kX8_thrown g1238 g1239 rfl g1240 g4 hP hS hy2 (by first | decide | omega) hl.1 rfl (by decide) (by first | decide | omega) dL_law_1816 (fun q ce E h' H1 locs1 hE => hE.elim) (fun v hh6 H locs hq hP hS => ?_)
    obtain ⟨rfl, rfl⟩ := hq
    rw [hcd]
    refine lv_iload hx hb dL_law_1819 (lv_at hl 1 rfl) ?_
    refine lv_icmp_eq (tgt := 1826) hx hb dL_law_1821 (by decide) (fun _ => ?_) (fun c9 => absurd rfl c9)
    refine lv_iload hx hb dL_law_1826 (lv_at hl 1 rfl) ?_
    refine lv_if_ne (tgt := 1843) hx hb dL_law_1828 (by decide) (fun _ => ?_) (fun hk0 => ?_)
    · refine lv_goto (tgt := 2940) hx hb dL_law_1843 (by decide) ?_
      exact kend ls H locs _ _ _ fo1 _ W2 j2 p2 (by rw [hb2]; omega) (by rw [hb2]; omega) hP hS (lv_sub hl [2, 3, 4, 5, 6] rfl)
    · refine lv_aload_n hx hb dL_law_1831 rfl (lv_at hl 3 rfl) ?_
      refine lv_iconst (v := nI 0) hx hb dL_law_1832 (by decide) ?_
      refine q_laldN C hP j2.ouf (by omega) (by omega) dL_law_1833 ?_
      refine lv_iload hx hb dL_law_1834 (lv_at hl 0 rfl) ?_
      refine lv_i2l hx hb dL_law_1836 rfl ?_
      refine W.lcmp hx hb dL_law_1837 ?_
      refine lv_if_eq (tgt := 1843) hx hb dL_law_1838 (by decide) (fun _ => ?_) (fun c9 => absurd ((lg_cmp_eq _ _).mpr (ha1 hk0)) c9)
      refine lv_goto (tgt := 2940) hx hb dL_law_1843 (by decide) ?_
      exact kend ls H locs _ _ _ fo1 _ W2 j2 p2 (by rw [hb2]; omega) (by rw [hb2]; omega) hP hS (lv_sub hl [2, 3, 4, 5, 6] rfl)
theorem dL_law_1846 : decode cL_law 1846 = .ok (.aload_n 1, 1) := by decide +kernel
theorem dL_law_1847 : decode cL_law 1847 = .ok (.aload_n 0, 1) := by decide +kernel
theorem dL_law_1848 : decode cL_law 1848 = .ok (.iload 4, 2) := by decide +kernel
theorem dL_law_1850 : decode cL_law 1850 = .ok (.iconst 1, 1) := by decide +kernel
theorem dL_law_1851 : decode cL_law 1851 = .ok (.iadd, 1) := by decide +kernel
theorem dL_law_1852 : decode cL_law 1852 = .ok (.iaload, 1) := by decide +kernel
theorem dL_law_1853 : decode cL_law 1853 = .ok (.aload_n 3, 1) := by decide +kernel
theorem dL_law_1854 : decode cL_law 1854 = .ok (.invokestatic 214, 3) := by decide +kernel
theorem dL_law_1857 : decode cL_law 1857 = .ok (.istore 5, 2) := by decide +kernel
theorem dL_law_1859 : decode cL_law 1859 = .ok (.aload_n 2, 1) := by decide +kernel
theorem dL_law_1860 : decode cL_law 1860 = .ok (.aload_n 0, 1) := by decide +kernel
theorem dL_law_1861 : decode cL_law 1861 = .ok (.iload 4, 2) := by decide +kernel
theorem dL_law_1863 : decode cL_law 1863 = .ok (.iconst 1, 1) := by decide +kernel
theorem dL_law_1864 : decode cL_law 1864 = .ok (.iadd, 1) := by decide +kernel
theorem dL_law_1865 : decode cL_law 1865 = .ok (.iaload, 1) := by decide +kernel
theorem dL_law_1866 : decode cL_law 1866 = .ok (.invokevirtual 216, 3) := by decide +kernel
theorem dL_law_1869 : decode cL_law 1869 = .ok (.istore 6, 2) := by decide +kernel
theorem dL_law_1871 : decode cL_law 1871 = .ok (.aload_n 2, 1) := by decide +kernel
theorem dL_law_1872 : decode cL_law 1872 = .ok (.invokevirtual 147, 3) := by decide +kernel
theorem dL_law_1875 : decode cL_law 1875 = .ok (.iload 5, 2) := by decide +kernel
theorem dL_law_1877 : decode cL_law 1877 = .ok (.if_icmp .eq 5, 3) := by decide +kernel
theorem dL_law_1882 : decode cL_law 1882 = .ok (.iload 5, 2) := by decide +kernel
theorem dL_law_1884 : decode cL_law 1884 = .ok (.ifCond .ne 15, 3) := by decide +kernel
theorem dL_law_1887 : decode cL_law 1887 = .ok (.aload_n 3, 1) := by decide +kernel
theorem dL_law_1888 : decode cL_law 1888 = .ok (.iconst 0, 1) := by decide +kernel
theorem dL_law_1889 : decode cL_law 1889 = .ok (.laload, 1) := by decide +kernel
theorem dL_law_1890 : decode cL_law 1890 = .ok (.iload 6, 2) := by decide +kernel
theorem dL_law_1892 : decode cL_law 1892 = .ok (.i2l, 1) := by decide +kernel
theorem dL_law_1893 : decode cL_law 1893 = .ok (.lcmp, 1) := by decide +kernel
theorem dL_law_1894 : decode cL_law 1894 = .ok (.ifCond .eq 5, 3) := by decide +kernel
theorem dL_law_1899 : decode cL_law 1899 = .ok (.goto 1041, 3) := by decide +kernel
set_option maxRecDepth 100000 in
set_option maxHeartbeats 4000000 in
theorem lc_shape {p : Program} {l : Launch} {e : Env} {mc ms : Nat} {s : State} {m : MethodId} {below : List Frame} {meth : Method} {c : Code} {H : Heap} {locs : List Loc} {cells slots : Nat} {Q : State → Prop} {rt0 : Option FieldType} {nm0 : String} {D : va_G} {cy : Nat → ClassId} {N0 : Nat} {tb : List ExceptionTableEntry} {h : qH} {ls : Array Slot} {b L : Nat} {xs : Nat → Int32} {x y ou : Nat} {fo : Nat → Int64} {gr : Int32} {n i C1 C2 : Nat} {S : Nat → qSlot} {Wo : qWo} (C : qX p l s m #[Value.ref b] meth c RL cL_law 8 rt0 nm0 D cy N0 tb) (hX : va_X b L xs s s.heap) (hbl0 : b < s.heap.size) (hbA : ¬ qA N0 b) (hP : qP D N0 h H) (hS : va_S (qA N0) s.heap H locs) (hi : i + 7 ≤ L) (hL : L ≤ 449) (hn : n < 64) (j : JZ cy h x y ou fo gr n S Wo S Wo) (hp : PI gr n S Wo) (hc1 : cells ≤ C1 + t1 n + Wo.2.1.1 + qP1 Wo.2.1) (hc2 : slots ≤ C2 + t2 n + 10 * Wo.2.1.1 + qP2 Wo.2.1) (hmc : C1 + 530000 ≤ mc) (hms : C2 + 5520000 ≤ ms) (hl : lv_has ls 8 [(4, .int (nI i)), (3, .ref ou), (2, .ref y), (1, .ref x), (0, .ref b)]) (kend : ∀ (ls : Array Slot) (H : Heap) (locs : List Loc) (c1 c2 : Nat) (h : qH) (fo : Nat → Int64) (S : Nat → qSlot) (Wo : qWo), JZ cy h x y ou fo gr (n + 1) S Wo S Wo → PI gr (n + 1) S Wo → c1 ≤ C1 + t1 (n + 1) + Wo.2.1.1 + qP1 Wo.2.1 → c2 ≤ C2 + t2 (n + 1) + 10 * Wo.2.1.1 + qP2 Wo.2.1 → qP D N0 h H → va_S (qA N0) s.heap H locs → lv_has ls 8 [(4, .int (nI i)), (3, .ref ou), (2, .ref y), (1, .ref x), (0, .ref b)] → W p l e (qR 2048 84000 mc ms) s m #[Value.ref b] below meth c H locs c1 c2 Q (F0 m 2940 ls [])) : W p l e (qR 2048 84000 mc ms) s m #[Value.ref b] below meth c H locs cells slots Q (F0 m 1846 ls []) := by
  have hx := C.1
  have hb := C.2.1
  have h1L := t1_le (n + 1) (by omega)
  have h2L := t2_le (n + 1) (by omega)
  have e1L : t1 (n + 1) = t1 n + (1201 + 212 * n) := rfl
  have e2L : t2 (n + 1) = t2 n + (13300 + n * rMs n 7) := rfl
  have hb0 := hp.bnd (by omega)
  refine lv_aload_n hx hb dL_law_1846 rfl (lv_at hl 3 rfl) ?_
  refine lv_aload_n hx hb dL_law_1847 rfl (lv_at hl 4 rfl) ?_
  refine lv_iload hx hb dL_law_1848 (lv_at hl 0 rfl) ?_
  refine lv_iconst (v := nI 1) hx hb dL_law_1850 (by decide) ?_
  refine q_iaddN hx hb dL_law_1851 ?_
  refine va_sld hx hb hX hbl0 hbA hS (nI_in (by omega) (by omega)) dL_law_1852 ?_
  refine lv_topi (fun s1 es1 => ?_)
  refine lv_aload_n hx hb dL_law_1853 rfl (lv_at hl 1 rfl) ?_
  have hpK : PI gr (n + 1) (S) (Wo) := hp.up
  have hbK := hpK.bnd (by omega)
  have hmo : MO Wo (Wo) := MO.rf
  have hqm := qP1_mo hmo hb0.2.2.2
  have hm1 := hmo.1
  refine q_callSW (rest := []) C (zl_shape l D cy N0 h x y ou fo gr n S Wo s1 j hp hn) kwL_shape g889 g890 hP hS (by omega) hl.1 rfl (by decide) (by omega) dL_law_1854 (fun v hh1 H locs hq hP hS => ?_)
  obtain ⟨rfl, fo1, j1, ha1⟩ := hq
  obtain ⟨fi, re, rc, rs, so, ot, cn, la, hy1⟩ := j1.yo
  refine lv_istore (lv' := [(5, .int ((xs_shape gr S s1).1)), (4, .int (nI i)), (3, .ref ou), (2, .ref y), (1, .ref x), (0, .ref b)]) hx hb dL_law_1857 hl (by decide) rfl (fun ls hl => ?_)
  refine lv_aload_n hx hb dL_law_1859 rfl (lv_at hl 3 rfl) ?_
  refine lv_aload_n hx hb dL_law_1860 rfl (lv_at hl 5 rfl) ?_
  refine lv_iload hx hb dL_law_1861 (lv_at hl 1 rfl) ?_
  refine lv_iconst (v := nI 1) hx hb dL_law_1863 (by decide) ?_
  refine q_iaddN hx hb dL_law_1864 ?_
  refine va_sld hx hb hX hbl0 hbA hS (nI_in (by omega) (by omega)) dL_law_1865 ?_
  rw [← es1]
  refine q_callV (rest := []) C (wl_shape l D cy N0 hh1 x y ou fo1 gr n S Wo s1 j1 hp hn) kX8_shape g1429 g1430 rfl g1431 g4 hP hS hy1 (by first | decide | omega) hl.1 rfl (by decide) (by first | decide | omega) dL_law_1866 (fun q ce E h' H1 locs1 hE => hE.elim) (fun v hh2 H locs hq hP hS => ?_)
  obtain ⟨rfl, W2, j2, p2, hcd, hw2⟩ := hq
  have hb2 : W2.2.1 = (Wo).2.1 := congrArg Prod.fst hw2
  obtain ⟨fi2, re2, rc2, rs2, so2, ot2, cn2, la2, hy2⟩ := j2.yo
  refine lv_istore (lv' := [(6, .int ((xs_shape gr S s1).2)), (5, .int ((xs_shape gr S s1).1)), (4, .int (nI i)), (3, .ref ou), (2, .ref y), (1, .ref x), (0, .ref b)]) hx hb dL_law_1869 hl (by decide) rfl (fun ls hl => ?_)
  refine lv_aload_n hx hb dL_law_1871 rfl (lv_at hl 4 rfl) ?_
  refine q_callV (rest := []) C (c_X8_thrown l D cy N0 hh2 y W2.1.1 W2.1.2.1 W2.1.2.2.1 W2.1.2.2.2.1 W2.1.2.2.2.2.1 fi2 re2 rc2 rs2 so2 ot2 cn2 la2 W2.1.2.2.2.2.2.1 W2.1.2.2.2.2.2.2.1 W2.1.2.2.2.2.2.2.2.1 W2.1.2.2.2.2.2.2.2.2.1 W2.1.2.2.2.2.2.2.2.2.2.1 W2.1.2.2.2.2.2.2.2.2.2.2.1 W2.1.2.2.2.2.2.2.2.2.2.2.2.1 (nI W2.2.1.1) (nI W2.2.2.1) W2.1.2.2.2.2.2.2.2.2.2.2.2.2 hy2) kX8_thrown g1238 g1239 rfl g1240 g4 hP hS hy2 (by first | decide | omega) hl.1 rfl (by decide) (by first | decide | omega) dL_law_1872 (fun q ce E h' H1 locs1 hE => hE.elim) (fun v hh3 H locs hq hP hS => ?_)
  obtain ⟨rfl, rfl⟩ := hq
  rw [hcd]
  refine lv_iload hx hb dL_law_1875 (lv_at hl 1 rfl) ?_
  refine lv_icmp_eq (tgt := 1882) hx hb dL_law_1877 (by decide) (fun _ => ?_) (fun c9 => absurd rfl c9)
  refine lv_iload hx hb dL_law_1882 (lv_at hl 1 rfl) ?_
  refine lv_if_ne (tgt := 1899) hx hb dL_law_1884 (by decide) (fun _ => ?_) (fun hk0 => ?_)
  · refine lv_goto (tgt := 2940) hx hb dL_law_1899 (by decide) ?_
    exact kend ls H locs _ _ _ fo1 _ W2 j2 p2 (by rw [hb2]; omega) (by rw [hb2]; omega) hP hS (lv_sub hl [2, 3, 4, 5, 6] rfl)
  · refine lv_aload_n hx hb dL_law_1887 rfl (lv_at hl 3 rfl) ?_
    refine lv_iconst (v := nI 0) hx hb dL_law_1888 (by decide) ?_
    refine q_laldN C hP j2.ouf (by omega) (by omega) dL_law_1889 ?_
    refine lv_iload hx hb dL_law_1890 (lv_at hl 0 rfl) ?_
    refine lv_i2l hx hb dL_law_1892 rfl ?_
    refine W.lcmp hx hb dL_law_1893 ?_
    refine lv_if_eq (tgt := 1899) hx hb dL_law_1894 (by decide) (fun _ => ?_) (fun c9 => absurd ((lg_cmp_eq _ _).mpr (ha1 hk0)) c9)
    refine lv_goto (tgt := 2940) hx hb dL_law_1899 (by decide) ?_
    exact kend ls H locs _ _ _ fo1 _ W2 j2 p2 (by rw [hb2]; omega) (by rw [hb2]; omega) hP hS (lv_sub hl [2, 3, 4, 5, 6] rfl)
theorem dL_law_1902 : decode cL_law 1902 = .ok (.aload_n 1, 1) := by decide +kernel
theorem dL_law_1903 : decode cL_law 1903 = .ok (.aload_n 0, 1) := by decide +kernel
theorem dL_law_1904 : decode cL_law 1904 = .ok (.iload 4, 2) := by decide +kernel
theorem dL_law_1906 : decode cL_law 1906 = .ok (.iconst 1, 1) := by decide +kernel
theorem dL_law_1907 : decode cL_law 1907 = .ok (.iadd, 1) := by decide +kernel
theorem dL_law_1908 : decode cL_law 1908 = .ok (.iaload, 1) := by decide +kernel
theorem dL_law_1909 : decode cL_law 1909 = .ok (.aload_n 0, 1) := by decide +kernel
theorem dL_law_1910 : decode cL_law 1910 = .ok (.iload 4, 2) := by decide +kernel
theorem dL_law_1912 : decode cL_law 1912 = .ok (.iconst 2, 1) := by decide +kernel
theorem dL_law_1913 : decode cL_law 1913 = .ok (.iadd, 1) := by decide +kernel
theorem dL_law_1914 : decode cL_law 1914 = .ok (.iaload, 1) := by decide +kernel
theorem dL_law_1915 : decode cL_law 1915 = .ok (.aload_n 3, 1) := by decide +kernel
theorem dL_law_1916 : decode cL_law 1916 = .ok (.invokestatic 217, 3) := by decide +kernel
theorem dL_law_1919 : decode cL_law 1919 = .ok (.istore 5, 2) := by decide +kernel
theorem dL_law_1921 : decode cL_law 1921 = .ok (.aload_n 2, 1) := by decide +kernel
theorem dL_law_1922 : decode cL_law 1922 = .ok (.aload_n 0, 1) := by decide +kernel
theorem dL_law_1923 : decode cL_law 1923 = .ok (.iload 4, 2) := by decide +kernel
theorem dL_law_1925 : decode cL_law 1925 = .ok (.iconst 1, 1) := by decide +kernel
theorem dL_law_1926 : decode cL_law 1926 = .ok (.iadd, 1) := by decide +kernel
theorem dL_law_1927 : decode cL_law 1927 = .ok (.iaload, 1) := by decide +kernel
theorem dL_law_1928 : decode cL_law 1928 = .ok (.aload_n 0, 1) := by decide +kernel
theorem dL_law_1929 : decode cL_law 1929 = .ok (.iload 4, 2) := by decide +kernel
theorem dL_law_1931 : decode cL_law 1931 = .ok (.iconst 2, 1) := by decide +kernel
theorem dL_law_1932 : decode cL_law 1932 = .ok (.iadd, 1) := by decide +kernel
theorem dL_law_1933 : decode cL_law 1933 = .ok (.iaload, 1) := by decide +kernel
theorem dL_law_1934 : decode cL_law 1934 = .ok (.invokevirtual 219, 3) := by decide +kernel
theorem dL_law_1937 : decode cL_law 1937 = .ok (.istore 6, 2) := by decide +kernel
theorem dL_law_1939 : decode cL_law 1939 = .ok (.aload_n 2, 1) := by decide +kernel
theorem dL_law_1940 : decode cL_law 1940 = .ok (.invokevirtual 147, 3) := by decide +kernel
theorem dL_law_1943 : decode cL_law 1943 = .ok (.iload 5, 2) := by decide +kernel
theorem dL_law_1945 : decode cL_law 1945 = .ok (.if_icmp .eq 5, 3) := by decide +kernel
theorem dL_law_1950 : decode cL_law 1950 = .ok (.iload 5, 2) := by decide +kernel
theorem dL_law_1952 : decode cL_law 1952 = .ok (.ifCond .ne 22, 3) := by decide +kernel
theorem dL_law_1955 : decode cL_law 1955 = .ok (.aload_n 3, 1) := by decide +kernel
theorem dL_law_1956 : decode cL_law 1956 = .ok (.iconst 0, 1) := by decide +kernel
theorem dL_law_1957 : decode cL_law 1957 = .ok (.laload, 1) := by decide +kernel
theorem dL_law_1958 : decode cL_law 1958 = .ok (.iload 6, 2) := by decide +kernel
theorem dL_law_1960 : decode cL_law 1960 = .ok (.ifCond .eq 7, 3) := by decide +kernel
theorem dL_law_1963 : decode cL_law 1963 = .ok (.lconst 1, 1) := by decide +kernel
theorem dL_law_1964 : decode cL_law 1964 = .ok (.goto 4, 3) := by decide +kernel
theorem dL_law_1967 : decode cL_law 1967 = .ok (.lconst 0, 1) := by decide +kernel
theorem dL_law_1968 : decode cL_law 1968 = .ok (.lcmp, 1) := by decide +kernel
theorem dL_law_1969 : decode cL_law 1969 = .ok (.ifCond .eq 5, 3) := by decide +kernel
theorem dL_law_1974 : decode cL_law 1974 = .ok (.goto 966, 3) := by decide +kernel
set_option maxRecDepth 100000 in
set_option maxHeartbeats 4000000 in
theorem lc_same {p : Program} {l : Launch} {e : Env} {mc ms : Nat} {s : State} {m : MethodId} {below : List Frame} {meth : Method} {c : Code} {H : Heap} {locs : List Loc} {cells slots : Nat} {Q : State → Prop} {rt0 : Option FieldType} {nm0 : String} {D : va_G} {cy : Nat → ClassId} {N0 : Nat} {tb : List ExceptionTableEntry} {h : qH} {ls : Array Slot} {b L : Nat} {xs : Nat → Int32} {x y ou : Nat} {fo : Nat → Int64} {gr : Int32} {n i C1 C2 : Nat} {S : Nat → qSlot} {Wo : qWo} (C : qX p l s m #[Value.ref b] meth c RL cL_law 8 rt0 nm0 D cy N0 tb) (hX : va_X b L xs s s.heap) (hbl0 : b < s.heap.size) (hbA : ¬ qA N0 b) (hP : qP D N0 h H) (hS : va_S (qA N0) s.heap H locs) (hi : i + 7 ≤ L) (hL : L ≤ 449) (hn : n < 64) (j : JZ cy h x y ou fo gr n S Wo S Wo) (hp : PI gr n S Wo) (hc1 : cells ≤ C1 + t1 n + Wo.2.1.1 + qP1 Wo.2.1) (hc2 : slots ≤ C2 + t2 n + 10 * Wo.2.1.1 + qP2 Wo.2.1) (hmc : C1 + 530000 ≤ mc) (hms : C2 + 5520000 ≤ ms) (hl : lv_has ls 8 [(4, .int (nI i)), (3, .ref ou), (2, .ref y), (1, .ref x), (0, .ref b)]) (kend : ∀ (ls : Array Slot) (H : Heap) (locs : List Loc) (c1 c2 : Nat) (h : qH) (fo : Nat → Int64) (S : Nat → qSlot) (Wo : qWo), JZ cy h x y ou fo gr (n + 1) S Wo S Wo → PI gr (n + 1) S Wo → c1 ≤ C1 + t1 (n + 1) + Wo.2.1.1 + qP1 Wo.2.1 → c2 ≤ C2 + t2 (n + 1) + 10 * Wo.2.1.1 + qP2 Wo.2.1 → qP D N0 h H → va_S (qA N0) s.heap H locs → lv_has ls 8 [(4, .int (nI i)), (3, .ref ou), (2, .ref y), (1, .ref x), (0, .ref b)] → W p l e (qR 2048 84000 mc ms) s m #[Value.ref b] below meth c H locs c1 c2 Q (F0 m 2940 ls [])) : W p l e (qR 2048 84000 mc ms) s m #[Value.ref b] below meth c H locs cells slots Q (F0 m 1902 ls []) := by
  have hx := C.1
  have hb := C.2.1
  have h1L := t1_le (n + 1) (by omega)
  have h2L := t2_le (n + 1) (by omega)
  have e1L : t1 (n + 1) = t1 n + (1201 + 212 * n) := rfl
  have e2L : t2 (n + 1) = t2 n + (13300 + n * rMs n 7) := rfl
  have hb0 := hp.bnd (by omega)
  obtain ⟨m0, hm0, hm9⟩ : ∃ m, oMq Wo.1 = nI m ∧ m ≤ 20000 := by obtain ⟨K, dp, hk⟩ := id hp; obtain ⟨m, h1, h2, -⟩ := hk.hV.m; exact ⟨m, h1, h2⟩
  refine lv_aload_n hx hb dL_law_1902 rfl (lv_at hl 3 rfl) ?_
  refine lv_aload_n hx hb dL_law_1903 rfl (lv_at hl 4 rfl) ?_
  refine lv_iload hx hb dL_law_1904 (lv_at hl 0 rfl) ?_
  refine lv_iconst (v := nI 1) hx hb dL_law_1906 (by decide) ?_
  refine q_iaddN hx hb dL_law_1907 ?_
  refine va_sld hx hb hX hbl0 hbA hS (nI_in (by omega) (by omega)) dL_law_1908 ?_
  refine lv_topi (fun s1 es1 => ?_)
  refine lv_aload_n hx hb dL_law_1909 rfl (lv_at hl 4 rfl) ?_
  refine lv_iload hx hb dL_law_1910 (lv_at hl 0 rfl) ?_
  refine lv_iconst (v := nI 2) hx hb dL_law_1912 (by decide) ?_
  refine q_iaddN hx hb dL_law_1913 ?_
  refine va_sld hx hb hX hbl0 hbA hS (nI_in (by omega) (by omega)) dL_law_1914 ?_
  refine lv_topi (fun s2 es2 => ?_)
  refine lv_aload_n hx hb dL_law_1915 rfl (lv_at hl 1 rfl) ?_
  have hpK : PI gr (n + 1) (S) ((oMv Wo.1 (nI (xs_same S s1 s2 m0).2.2), Wo.2)) := (hp.same hm0 hm9)
  have hbK := hpK.bnd (by omega)
  have hmo : MO Wo ((oMv Wo.1 (nI (xs_same S s1 s2 m0).2.2), Wo.2)) := MO.rf
  have hqm := qP1_mo hmo hb0.2.2.2
  have hm1 := hmo.1
  dsimp only at hbK
  dsimp only at hqm
  dsimp only at hm1
  refine q_callSW (rest := []) C (zl_same l D cy N0 h x y ou fo gr n S Wo m0 s1 s2 j hp hn hm0 hm9) kwL_same g900 g901 hP hS (by omega) hl.1 rfl (by decide) (by omega) dL_law_1916 (fun v hh1 H locs hq hP hS => ?_)
  obtain ⟨rfl, fo1, j1, ha1⟩ := hq
  obtain ⟨fi, re, rc, rs, so, ot, cn, la, hy1⟩ := j1.yo
  refine lv_istore (lv' := [(5, .int ((xs_same S s1 s2 m0).1)), (4, .int (nI i)), (3, .ref ou), (2, .ref y), (1, .ref x), (0, .ref b)]) hx hb dL_law_1919 hl (by decide) rfl (fun ls hl => ?_)
  refine lv_aload_n hx hb dL_law_1921 rfl (lv_at hl 3 rfl) ?_
  refine lv_aload_n hx hb dL_law_1922 rfl (lv_at hl 5 rfl) ?_
  refine lv_iload hx hb dL_law_1923 (lv_at hl 1 rfl) ?_
  refine lv_iconst (v := nI 1) hx hb dL_law_1925 (by decide) ?_
  refine q_iaddN hx hb dL_law_1926 ?_
  refine va_sld hx hb hX hbl0 hbA hS (nI_in (by omega) (by omega)) dL_law_1927 ?_
  rw [← es1]
  refine lv_aload_n hx hb dL_law_1928 rfl (lv_at hl 5 rfl) ?_
  refine lv_iload hx hb dL_law_1929 (lv_at hl 1 rfl) ?_
  refine lv_iconst (v := nI 2) hx hb dL_law_1931 (by decide) ?_
  refine q_iaddN hx hb dL_law_1932 ?_
  refine va_sld hx hb hX hbl0 hbA hS (nI_in (by omega) (by omega)) dL_law_1933 ?_
  rw [← es2]
  refine q_callV (rest := []) C (wl_same l D cy N0 hh1 x y ou fo1 gr n S Wo m0 s1 s2 j1 hp hn hm0 hm9) kX8_same g1425 g1426 rfl g1427 g4 hP hS hy1 (by first | decide | omega) hl.1 rfl (by decide) (by first | decide | omega) dL_law_1934 (fun q ce E h' H1 locs1 hE => hE.elim) (fun v hh2 H locs hq hP hS => ?_)
  obtain ⟨rfl, W2, j2, p2, hcd, hw2⟩ := hq
  have hb2 : W2.2.1 = Wo.2.1 := congrArg Prod.fst hw2
  obtain ⟨fi2, re2, rc2, rs2, so2, ot2, cn2, la2, hy2⟩ := j2.yo
  refine lv_istore (lv' := [(6, .int ((xs_same S s1 s2 m0).2.1)), (5, .int ((xs_same S s1 s2 m0).1)), (4, .int (nI i)), (3, .ref ou), (2, .ref y), (1, .ref x), (0, .ref b)]) hx hb dL_law_1937 hl (by decide) rfl (fun ls hl => ?_)
  refine lv_aload_n hx hb dL_law_1939 rfl (lv_at hl 4 rfl) ?_
  refine q_callV (rest := []) C (c_X8_thrown l D cy N0 hh2 y W2.1.1 W2.1.2.1 W2.1.2.2.1 W2.1.2.2.2.1 W2.1.2.2.2.2.1 fi2 re2 rc2 rs2 so2 ot2 cn2 la2 W2.1.2.2.2.2.2.1 W2.1.2.2.2.2.2.2.1 W2.1.2.2.2.2.2.2.2.1 W2.1.2.2.2.2.2.2.2.2.1 W2.1.2.2.2.2.2.2.2.2.2.1 W2.1.2.2.2.2.2.2.2.2.2.2.1 W2.1.2.2.2.2.2.2.2.2.2.2.2.1 (nI W2.2.1.1) (nI W2.2.2.1) W2.1.2.2.2.2.2.2.2.2.2.2.2.2 hy2) kX8_thrown g1238 g1239 rfl g1240 g4 hP hS hy2 (by first | decide | omega) hl.1 rfl (by decide) (by first | decide | omega) dL_law_1940 (fun q ce E h' H1 locs1 hE => hE.elim) (fun v hh3 H locs hq hP hS => ?_)
  obtain ⟨rfl, rfl⟩ := hq
  rw [hcd]
  refine lv_iload hx hb dL_law_1943 (lv_at hl 1 rfl) ?_
  refine lv_icmp_eq (tgt := 1950) hx hb dL_law_1945 (by decide) (fun _ => ?_) (fun c9 => absurd rfl c9)
  refine lv_iload hx hb dL_law_1950 (lv_at hl 1 rfl) ?_
  refine lv_if_ne (tgt := 1974) hx hb dL_law_1952 (by decide) (fun _ => ?_) (fun hk0 => ?_)
  · refine lv_goto (tgt := 2940) hx hb dL_law_1974 (by decide) ?_
    exact kend ls H locs _ _ _ fo1 _ W2 j2 p2 (by rw [hb2]; omega) (by rw [hb2]; omega) hP hS (lv_sub hl [2, 3, 4, 5, 6] rfl)
  · refine lv_aload_n hx hb dL_law_1955 rfl (lv_at hl 3 rfl) ?_
    refine lv_iconst (v := nI 0) hx hb dL_law_1956 (by decide) ?_
    refine q_laldN C hP j2.ouf (by omega) (by omega) dL_law_1957 ?_
    refine lv_iload hx hb dL_law_1958 (lv_at hl 0 rfl) ?_
    rcases xs_same01 (S := S) (p0 := s1) (p1 := s2) (m := m0) with h01 | h01
    · refine lv_if_eq (tgt := 1967) hx hb dL_law_1960 (by decide) (fun _ => ?_) (fun c9 => absurd (by rw [h01]; rfl) c9)
      refine lv_lconst (v := 0) hx hb dL_law_1967 (by decide) ?_
      refine W.lcmp hx hb dL_law_1968 ?_
      refine lv_if_eq (tgt := 1974) hx hb dL_law_1969 (by decide) (fun _ => ?_) (fun c9 => absurd ((lg_cmp_eq _ _).mpr ((ha1 hk0).trans (by rw [h01]; rfl))) c9)
      refine lv_goto (tgt := 2940) hx hb dL_law_1974 (by decide) ?_
      exact kend ls H locs _ _ _ fo1 _ W2 j2 p2 (by rw [hb2]; omega) (by rw [hb2]; omega) hP hS (lv_sub hl [2, 3, 4, 5, 6] rfl)
    · refine lv_if_eq (tgt := 1967) hx hb dL_law_1960 (by decide) (fun c9 => absurd c9 (fun z9 => by rw [h01] at z9; exact absurd z9 (by decide))) (fun _ => ?_)
      refine lv_lconst (v := 1) hx hb dL_law_1963 (by decide) ?_
      refine lv_goto (tgt := 1968) hx hb dL_law_1964 (by decide) ?_
      refine W.lcmp hx hb dL_law_1968 ?_
      refine lv_if_eq (tgt := 1974) hx hb dL_law_1969 (by decide) (fun _ => ?_) (fun c9 => absurd ((lg_cmp_eq _ _).mpr ((ha1 hk0).trans (by rw [h01]; rfl))) c9)
      refine lv_goto (tgt := 2940) hx hb dL_law_1974 (by decide) ?_
      exact kend ls H locs _ _ _ fo1 _ W2 j2 p2 (by rw [hb2]; omega) (by rw [hb2]; omega) hP hS (lv_sub hl [2, 3, 4, 5, 6] rfl)
