theorem dX8_cell_0 : decode cX8_cell 0 = .ok (.aload_n 0, 1) := by decide +kernel
theorem dX8_cell_1 : decode cX8_cell 1 = .ok (.getfield 61, 3) := by decide +kernel
theorem dX8_cell_4 : decode cX8_cell 4 = .ok (.aload_n 0, 1) := by decide +kernel
theorem dX8_cell_5 : decode cX8_cell 5 = .ok (.getfield 43, 3) := by decide +kernel
theorem dX8_cell_8 : decode cX8_cell 8 = .ok (.arraylength, 1) := by decide +kernel
theorem dX8_cell_9 : decode cX8_cell 9 = .ok (.if_icmp .ne 69, 3) := by decide +kernel
theorem dX8_cell_78 : decode cX8_cell 78 = .ok (.aload_n 0, 1) := by decide +kernel
theorem dX8_cell_79 : decode cX8_cell 79 = .ok (.getfield 43, 3) := by decide +kernel
theorem dX8_cell_82 : decode cX8_cell 82 = .ok (.aload_n 0, 1) := by decide +kernel
theorem dX8_cell_83 : decode cX8_cell 83 = .ok (.getfield 61, 3) := by decide +kernel
theorem dX8_cell_86 : decode cX8_cell 86 = .ok (.iload_n 1, 1) := by decide +kernel
theorem dX8_cell_87 : decode cX8_cell 87 = .ok (.iastore, 1) := by decide +kernel
theorem dX8_cell_88 : decode cX8_cell 88 = .ok (.aload_n 0, 1) := by decide +kernel
theorem dX8_cell_89 : decode cX8_cell 89 = .ok (.getfield 49, 3) := by decide +kernel
theorem dX8_cell_92 : decode cX8_cell 92 = .ok (.aload_n 0, 1) := by decide +kernel
theorem dX8_cell_93 : decode cX8_cell 93 = .ok (.getfield 61, 3) := by decide +kernel
theorem dX8_cell_96 : decode cX8_cell 96 = .ok (.iload_n 2, 1) := by decide +kernel
theorem dX8_cell_97 : decode cX8_cell 97 = .ok (.iastore, 1) := by decide +kernel
theorem dX8_cell_98 : decode cX8_cell 98 = .ok (.aload_n 0, 1) := by decide +kernel
theorem dX8_cell_99 : decode cX8_cell 99 = .ok (.getfield 52, 3) := by decide +kernel
theorem dX8_cell_102 : decode cX8_cell 102 = .ok (.aload_n 0, 1) := by decide +kernel
theorem dX8_cell_103 : decode cX8_cell 103 = .ok (.getfield 61, 3) := by decide +kernel
theorem dX8_cell_106 : decode cX8_cell 106 = .ok (.iload_n 3, 1) := by decide +kernel
theorem dX8_cell_107 : decode cX8_cell 107 = .ok (.iastore, 1) := by decide +kernel
theorem dX8_cell_108 : decode cX8_cell 108 = .ok (.aload_n 0, 1) := by decide +kernel
theorem dX8_cell_109 : decode cX8_cell 109 = .ok (.getfield 55, 3) := by decide +kernel
theorem dX8_cell_112 : decode cX8_cell 112 = .ok (.aload_n 0, 1) := by decide +kernel
theorem dX8_cell_113 : decode cX8_cell 113 = .ok (.getfield 61, 3) := by decide +kernel
theorem dX8_cell_116 : decode cX8_cell 116 = .ok (.lload 4, 2) := by decide +kernel
theorem dX8_cell_118 : decode cX8_cell 118 = .ok (.lastore, 1) := by decide +kernel
theorem dX8_cell_119 : decode cX8_cell 119 = .ok (.aload_n 0, 1) := by decide +kernel
theorem dX8_cell_120 : decode cX8_cell 120 = .ok (.getfield 58, 3) := by decide +kernel
theorem dX8_cell_123 : decode cX8_cell 123 = .ok (.aload_n 0, 1) := by decide +kernel
theorem dX8_cell_124 : decode cX8_cell 124 = .ok (.getfield 61, 3) := by decide +kernel
theorem dX8_cell_127 : decode cX8_cell 127 = .ok (.lload 6, 2) := by decide +kernel
theorem dX8_cell_129 : decode cX8_cell 129 = .ok (.lastore, 1) := by decide +kernel
theorem dX8_cell_130 : decode cX8_cell 130 = .ok (.aload_n 0, 1) := by decide +kernel
theorem dX8_cell_131 : decode cX8_cell 131 = .ok (.dup, 1) := by decide +kernel
theorem dX8_cell_132 : decode cX8_cell 132 = .ok (.getfield 61, 3) := by decide +kernel
theorem dX8_cell_135 : decode cX8_cell 135 = .ok (.iconst 1, 1) := by decide +kernel
theorem dX8_cell_136 : decode cX8_cell 136 = .ok (.iadd, 1) := by decide +kernel
theorem dX8_cell_137 : decode cX8_cell 137 = .ok (.putfield 61, 3) := by decide +kernel
theorem dX8_cell_140 : decode cX8_cell 140 = .ok (.aload_n 0, 1) := by decide +kernel
theorem dX8_cell_141 : decode cX8_cell 141 = .ok (.getfield 61, 3) := by decide +kernel
theorem dX8_cell_144 : decode cX8_cell 144 = .ok (.iconst 1, 1) := by decide +kernel
theorem dX8_cell_145 : decode cX8_cell 145 = .ok (.isub, 1) := by decide +kernel
theorem dX8_cell_146 : decode cX8_cell 146 = .ok (.ireturn, 1) := by decide +kernel
set_option maxRecDepth 100000 in
set_option maxHeartbeats 4000000 in
theorem c_X8_cell_1 (l : Launch) (D : va_G) (cy : Nat → ClassId) (N0 : Nat) (h : qH) (y ms mb mw od pt fi re rc rs so ot cn la ro : Nat) (gr cd ca mv ct fa cs rn : Int32) (a_rc a_so a_ot : Nat → Int32) (a_cn a_la : Nat → Int64) (n : Nat) (p0 p1 p2 : Int32) (p3 p4 : Int64) (hY : h y = some (.inr (8, [.ref ms, .ref mb, .ref mw, .int gr, .int cd, .int ca, .int mv, .ref od, .ref pt, .int ct, .int fa, .ref fi, .ref re, .int cs, .ref rc, .ref rs, .ref so, .ref ot, .ref cn, .ref la, .int (nI n), .ref ro, .int rn]))) (hrc : h rc = some (.inl (cy 0, 1024, .inl a_rc))) (hso : h so = some (.inl (cy 0, 1024, .inl a_so))) (hot : h ot = some (.inl (cy 0, 1024, .inl a_ot))) (hcn : h cn = some (.inl (cy 1, 1024, .inr (.inl a_cn)))) (hla : h la = some (.inl (cy 1, 1024, .inr (.inl a_la)))) (n_so_rc : rc ≠ so) (n_ot_rc : rc ≠ ot) (n_ot_so : so ≠ ot) (n_la_cn : cn ≠ la) (hn : n < 1024) : qC l D cy N0 yX8_cell cX8_cell 8 (some .int) 0 0 0 0 [.ref y, .int p0, .int p1, .int p2, .long p3, .long p4] h (fun v h' => v = some (.int (nI n)) ∧ h' = qs (qs (qs (qs (qs (qs h rc (.inl (cy 0, 1024, .inl (upd a_rc n p0)))) so (.inl (cy 0, 1024, .inl (upd a_so n p1)))) ot (.inl (cy 0, 1024, .inl (upd a_ot n p2)))) cn (.inl (cy 1, 1024, .inr (.inl (vp_updL a_cn n p3))))) la (.inl (cy 1, 1024, .inr (.inl (vp_updL a_la n p4))))) y (.inr (8, [.ref ms, .ref mb, .ref mw, .int gr, .int cd, .int ca, .int mv, .ref od, .ref pt, .int ct, .int fa, .ref fi, .ref re, .int cs, .ref rc, .ref rs, .ref so, .ref ot, .ref cn, .ref la, .int (nI (n + 1)), .ref ro, .int rn]))) (fun E h' => False) := by
  refine q_ofW (by decide) (by exact Nat.le_of_ble_eq_true rfl) ?_
  intro p e s m below meth c ls C hP hl
  have hx := C.1
  have hb := C.2.1
  have hS : va_S (qA N0) s.heap s.heap [] := va_S.rf
  have hl : lv_has ls 8 [(0, .ref y), (1, .int p0), (2, .int p1), (3, .int p2), (4, .long p3), (6, .long p4)] := hl
  refine lv_aload_n hx hb dX8_cell_0 rfl (lv_at hl 0 rfl) ?_
  refine q_get C hP hY rfl inX8 20 (by decide) g1187 rfl dX8_cell_1 ?_
  refine lv_aload_n hx hb dX8_cell_4 rfl (lv_at hl 0 rfl) ?_
  refine q_get C hP hY rfl inX8 14 (by decide) g1181 rfl dX8_cell_5 ?_
  refine q_alen C hP hrc rfl dX8_cell_8 ?_
  refine lv_icmp_ne (tgt := 78) hx hb dX8_cell_9 (by decide) (fun _ => ?_) (fun c9 => absurd ((nI_eq (by omega) (by omega)).mp c9) (by omega))
  refine lv_aload_n hx hb dX8_cell_78 rfl (lv_at hl 0 rfl) ?_
  refine q_get C hP hY rfl inX8 14 (by decide) g1181 rfl dX8_cell_79 ?_
  refine lv_aload_n hx hb dX8_cell_82 rfl (lv_at hl 0 rfl) ?_
  refine q_get C hP hY rfl inX8 20 (by decide) g1187 rfl dX8_cell_83 ?_
  refine lv_iload_n hx hb dX8_cell_86 rfl (lv_at hl 1 rfl) ?_
  refine q_iastN C hP hS hrc (by omega) (by omega) dX8_cell_87 (fun H locs hP hS => ?_)
  replace hY := (qs_ne (h := h) (a := rc) (o := (.inl (cy 0, 1024, .inl (upd a_rc n p0)))) (fun q => by subst q; have := hY.symm.trans hrc; first | cases this | simp at this)).trans hY
  replace hso := (qs_ne (h := h) (a := rc) (o := (.inl (cy 0, 1024, .inl (upd a_rc n p0)))) n_so_rc.symm).trans hso
  replace hot := (qs_ne (h := h) (a := rc) (o := (.inl (cy 0, 1024, .inl (upd a_rc n p0)))) n_ot_rc.symm).trans hot
  replace hcn := (qs_ne (h := h) (a := rc) (o := (.inl (cy 0, 1024, .inl (upd a_rc n p0)))) (fun q => by subst q; have := hcn.symm.trans hrc; first | cases this | simp at this)).trans hcn
  replace hla := (qs_ne (h := h) (a := rc) (o := (.inl (cy 0, 1024, .inl (upd a_rc n p0)))) (fun q => by subst q; have := hla.symm.trans hrc; first | cases this | simp at this)).trans hla
  replace hrc : (qs h rc (.inl (cy 0, 1024, .inl (upd a_rc n p0)))) rc = some (.inl (cy 0, 1024, .inl (upd a_rc n p0))) := qs_self
  refine lv_aload_n hx hb dX8_cell_88 rfl (lv_at hl 0 rfl) ?_
  refine q_get C hP hY rfl inX8 16 (by decide) g1183 rfl dX8_cell_89 ?_
  refine lv_aload_n hx hb dX8_cell_92 rfl (lv_at hl 0 rfl) ?_
  refine q_get C hP hY rfl inX8 20 (by decide) g1187 rfl dX8_cell_93 ?_
  refine lv_iload_n hx hb dX8_cell_96 rfl (lv_at hl 2 rfl) ?_
  refine q_iastN C hP hS hso (by omega) (by omega) dX8_cell_97 (fun H locs hP hS => ?_)
  replace hY := (qs_ne (h := (qs h rc (.inl (cy 0, 1024, .inl (upd a_rc n p0))))) (a := so) (o := (.inl (cy 0, 1024, .inl (upd a_so n p1)))) (fun q => by subst q; have := hY.symm.trans hso; first | cases this | simp at this)).trans hY
  replace hrc := (qs_ne (h := (qs h rc (.inl (cy 0, 1024, .inl (upd a_rc n p0))))) (a := so) (o := (.inl (cy 0, 1024, .inl (upd a_so n p1)))) n_so_rc).trans hrc
  replace hot := (qs_ne (h := (qs h rc (.inl (cy 0, 1024, .inl (upd a_rc n p0))))) (a := so) (o := (.inl (cy 0, 1024, .inl (upd a_so n p1)))) n_ot_so.symm).trans hot
  replace hcn := (qs_ne (h := (qs h rc (.inl (cy 0, 1024, .inl (upd a_rc n p0))))) (a := so) (o := (.inl (cy 0, 1024, .inl (upd a_so n p1)))) (fun q => by subst q; have := hcn.symm.trans hso; first | cases this | simp at this)).trans hcn
  replace hla := (qs_ne (h := (qs h rc (.inl (cy 0, 1024, .inl (upd a_rc n p0))))) (a := so) (o := (.inl (cy 0, 1024, .inl (upd a_so n p1)))) (fun q => by subst q; have := hla.symm.trans hso; first | cases this | simp at this)).trans hla
  replace hso : (qs (qs h rc (.inl (cy 0, 1024, .inl (upd a_rc n p0)))) so (.inl (cy 0, 1024, .inl (upd a_so n p1)))) so = some (.inl (cy 0, 1024, .inl (upd a_so n p1))) := qs_self
  refine lv_aload_n hx hb dX8_cell_98 rfl (lv_at hl 0 rfl) ?_
  refine q_get C hP hY rfl inX8 17 (by decide) g1184 rfl dX8_cell_99 ?_
  refine lv_aload_n hx hb dX8_cell_102 rfl (lv_at hl 0 rfl) ?_
  refine q_get C hP hY rfl inX8 20 (by decide) g1187 rfl dX8_cell_103 ?_
  refine lv_iload_n hx hb dX8_cell_106 rfl (lv_at hl 3 rfl) ?_
  refine q_iastN C hP hS hot (by omega) (by omega) dX8_cell_107 (fun H locs hP hS => ?_)
  replace hY := (qs_ne (h := (qs (qs h rc (.inl (cy 0, 1024, .inl (upd a_rc n p0)))) so (.inl (cy 0, 1024, .inl (upd a_so n p1))))) (a := ot) (o := (.inl (cy 0, 1024, .inl (upd a_ot n p2)))) (fun q => by subst q; have := hY.symm.trans hot; first | cases this | simp at this)).trans hY
  replace hrc := (qs_ne (h := (qs (qs h rc (.inl (cy 0, 1024, .inl (upd a_rc n p0)))) so (.inl (cy 0, 1024, .inl (upd a_so n p1))))) (a := ot) (o := (.inl (cy 0, 1024, .inl (upd a_ot n p2)))) n_ot_rc).trans hrc
  replace hso := (qs_ne (h := (qs (qs h rc (.inl (cy 0, 1024, .inl (upd a_rc n p0)))) so (.inl (cy 0, 1024, .inl (upd a_so n p1))))) (a := ot) (o := (.inl (cy 0, 1024, .inl (upd a_ot n p2)))) n_ot_so).trans hso
  replace hcn := (qs_ne (h := (qs (qs h rc (.inl (cy 0, 1024, .inl (upd a_rc n p0)))) so (.inl (cy 0, 1024, .inl (upd a_so n p1))))) (a := ot) (o := (.inl (cy 0, 1024, .inl (upd a_ot n p2)))) (fun q => by subst q; have := hcn.symm.trans hot; first | cases this | simp at this)).trans hcn
  replace hla := (qs_ne (h := (qs (qs h rc (.inl (cy 0, 1024, .inl (upd a_rc n p0)))) so (.inl (cy 0, 1024, .inl (upd a_so n p1))))) (a := ot) (o := (.inl (cy 0, 1024, .inl (upd a_ot n p2)))) (fun q => by subst q; have := hla.symm.trans hot; first | cases this | simp at this)).trans hla
  replace hot : (qs (qs (qs h rc (.inl (cy 0, 1024, .inl (upd a_rc n p0)))) so (.inl (cy 0, 1024, .inl (upd a_so n p1)))) ot (.inl (cy 0, 1024, .inl (upd a_ot n p2)))) ot = some (.inl (cy 0, 1024, .inl (upd a_ot n p2))) := qs_self
  refine lv_aload_n hx hb dX8_cell_108 rfl (lv_at hl 0 rfl) ?_
  refine q_get C hP hY rfl inX8 18 (by decide) g1185 rfl dX8_cell_109 ?_
  refine lv_aload_n hx hb dX8_cell_112 rfl (lv_at hl 0 rfl) ?_
  refine q_get C hP hY rfl inX8 20 (by decide) g1187 rfl dX8_cell_113 ?_
  refine lv_lload hx hb dX8_cell_116 (lv_at hl 4 rfl) ?_
  refine q_lastN C hP hS hcn (by omega) (by omega) dX8_cell_118 (fun H locs hP hS => ?_)
  replace hY := (qs_ne (h := (qs (qs (qs h rc (.inl (cy 0, 1024, .inl (upd a_rc n p0)))) so (.inl (cy 0, 1024, .inl (upd a_so n p1)))) ot (.inl (cy 0, 1024, .inl (upd a_ot n p2))))) (a := cn) (o := (.inl (cy 1, 1024, .inr (.inl (vp_updL a_cn n p3))))) (fun q => by subst q; have := hY.symm.trans hcn; first | cases this | simp at this)).trans hY
  replace hrc := (qs_ne (h := (qs (qs (qs h rc (.inl (cy 0, 1024, .inl (upd a_rc n p0)))) so (.inl (cy 0, 1024, .inl (upd a_so n p1)))) ot (.inl (cy 0, 1024, .inl (upd a_ot n p2))))) (a := cn) (o := (.inl (cy 1, 1024, .inr (.inl (vp_updL a_cn n p3))))) (fun q => by subst q; have := hrc.symm.trans hcn; first | cases this | simp at this)).trans hrc
  replace hso := (qs_ne (h := (qs (qs (qs h rc (.inl (cy 0, 1024, .inl (upd a_rc n p0)))) so (.inl (cy 0, 1024, .inl (upd a_so n p1)))) ot (.inl (cy 0, 1024, .inl (upd a_ot n p2))))) (a := cn) (o := (.inl (cy 1, 1024, .inr (.inl (vp_updL a_cn n p3))))) (fun q => by subst q; have := hso.symm.trans hcn; first | cases this | simp at this)).trans hso
  replace hot := (qs_ne (h := (qs (qs (qs h rc (.inl (cy 0, 1024, .inl (upd a_rc n p0)))) so (.inl (cy 0, 1024, .inl (upd a_so n p1)))) ot (.inl (cy 0, 1024, .inl (upd a_ot n p2))))) (a := cn) (o := (.inl (cy 1, 1024, .inr (.inl (vp_updL a_cn n p3))))) (fun q => by subst q; have := hot.symm.trans hcn; first | cases this | simp at this)).trans hot
  replace hla := (qs_ne (h := (qs (qs (qs h rc (.inl (cy 0, 1024, .inl (upd a_rc n p0)))) so (.inl (cy 0, 1024, .inl (upd a_so n p1)))) ot (.inl (cy 0, 1024, .inl (upd a_ot n p2))))) (a := cn) (o := (.inl (cy 1, 1024, .inr (.inl (vp_updL a_cn n p3))))) n_la_cn.symm).trans hla
  replace hcn : (qs (qs (qs (qs h rc (.inl (cy 0, 1024, .inl (upd a_rc n p0)))) so (.inl (cy 0, 1024, .inl (upd a_so n p1)))) ot (.inl (cy 0, 1024, .inl (upd a_ot n p2)))) cn (.inl (cy 1, 1024, .inr (.inl (vp_updL a_cn n p3))))) cn = some (.inl (cy 1, 1024, .inr (.inl (vp_updL a_cn n p3)))) := qs_self
  refine lv_aload_n hx hb dX8_cell_119 rfl (lv_at hl 0 rfl) ?_
  refine q_get C hP hY rfl inX8 19 (by decide) g1186 rfl dX8_cell_120 ?_
  refine lv_aload_n hx hb dX8_cell_123 rfl (lv_at hl 0 rfl) ?_
  refine q_get C hP hY rfl inX8 20 (by decide) g1187 rfl dX8_cell_124 ?_
  refine lv_lload hx hb dX8_cell_127 (lv_at hl 5 rfl) ?_
  refine q_lastN C hP hS hla (by omega) (by omega) dX8_cell_129 (fun H locs hP hS => ?_)
  replace hY := (qs_ne (h := (qs (qs (qs (qs h rc (.inl (cy 0, 1024, .inl (upd a_rc n p0)))) so (.inl (cy 0, 1024, .inl (upd a_so n p1)))) ot (.inl (cy 0, 1024, .inl (upd a_ot n p2)))) cn (.inl (cy 1, 1024, .inr (.inl (vp_updL a_cn n p3)))))) (a := la) (o := (.inl (cy 1, 1024, .inr (.inl (vp_updL a_la n p4))))) (fun q => by subst q; have := hY.symm.trans hla; first | cases this | simp at this)).trans hY
  replace hrc := (qs_ne (h := (qs (qs (qs (qs h rc (.inl (cy 0, 1024, .inl (upd a_rc n p0)))) so (.inl (cy 0, 1024, .inl (upd a_so n p1)))) ot (.inl (cy 0, 1024, .inl (upd a_ot n p2)))) cn (.inl (cy 1, 1024, .inr (.inl (vp_updL a_cn n p3)))))) (a := la) (o := (.inl (cy 1, 1024, .inr (.inl (vp_updL a_la n p4))))) (fun q => by subst q; have := hrc.symm.trans hla; first | cases this | simp at this)).trans hrc
  replace hso := (qs_ne (h := (qs (qs (qs (qs h rc (.inl (cy 0, 1024, .inl (upd a_rc n p0)))) so (.inl (cy 0, 1024, .inl (upd a_so n p1)))) ot (.inl (cy 0, 1024, .inl (upd a_ot n p2)))) cn (.inl (cy 1, 1024, .inr (.inl (vp_updL a_cn n p3)))))) (a := la) (o := (.inl (cy 1, 1024, .inr (.inl (vp_updL a_la n p4))))) (fun q => by subst q; have := hso.symm.trans hla; first | cases this | simp at this)).trans hso
  replace hot := (qs_ne (h := (qs (qs (qs (qs h rc (.inl (cy 0, 1024, .inl (upd a_rc n p0)))) so (.inl (cy 0, 1024, .inl (upd a_so n p1)))) ot (.inl (cy 0, 1024, .inl (upd a_ot n p2)))) cn (.inl (cy 1, 1024, .inr (.inl (vp_updL a_cn n p3)))))) (a := la) (o := (.inl (cy 1, 1024, .inr (.inl (vp_updL a_la n p4))))) (fun q => by subst q; have := hot.symm.trans hla; first | cases this | simp at this)).trans hot
  replace hcn := (qs_ne (h := (qs (qs (qs (qs h rc (.inl (cy 0, 1024, .inl (upd a_rc n p0)))) so (.inl (cy 0, 1024, .inl (upd a_so n p1)))) ot (.inl (cy 0, 1024, .inl (upd a_ot n p2)))) cn (.inl (cy 1, 1024, .inr (.inl (vp_updL a_cn n p3)))))) (a := la) (o := (.inl (cy 1, 1024, .inr (.inl (vp_updL a_la n p4))))) n_la_cn).trans hcn
  replace hla : (qs (qs (qs (qs (qs h rc (.inl (cy 0, 1024, .inl (upd a_rc n p0)))) so (.inl (cy 0, 1024, .inl (upd a_so n p1)))) ot (.inl (cy 0, 1024, .inl (upd a_ot n p2)))) cn (.inl (cy 1, 1024, .inr (.inl (vp_updL a_cn n p3))))) la (.inl (cy 1, 1024, .inr (.inl (vp_updL a_la n p4))))) la = some (.inl (cy 1, 1024, .inr (.inl (vp_updL a_la n p4)))) := qs_self
  refine lv_aload_n hx hb dX8_cell_130 rfl (lv_at hl 0 rfl) ?_
  refine lv_dup hx hb dX8_cell_131 rfl ?_
  refine q_get C hP hY rfl inX8 20 (by decide) g1187 rfl dX8_cell_132 ?_
  refine lv_iconst (v := 1) hx hb dX8_cell_135 (by decide) ?_
  refine lv_iadd hx hb dX8_cell_136 ?_
  rw [nI_1]
  refine q_put C hP hS hY rfl inX8 tyX8 tyX8_ok nmX8 20 (by decide) g1187 rfl rfl rfl (Nat.le_of_ble_eq_true rfl) dX8_cell_137 (fun H locs hP hS => ?_)
  replace hrc := (qs_ne (h := (qs (qs (qs (qs (qs h rc (.inl (cy 0, 1024, .inl (upd a_rc n p0)))) so (.inl (cy 0, 1024, .inl (upd a_so n p1)))) ot (.inl (cy 0, 1024, .inl (upd a_ot n p2)))) cn (.inl (cy 1, 1024, .inr (.inl (vp_updL a_cn n p3))))) la (.inl (cy 1, 1024, .inr (.inl (vp_updL a_la n p4)))))) (a := y) (o := (.inr (8, [.ref ms, .ref mb, .ref mw, .int gr, .int cd, .int ca, .int mv, .ref od, .ref pt, .int ct, .int fa, .ref fi, .ref re, .int cs, .ref rc, .ref rs, .ref so, .ref ot, .ref cn, .ref la, .int (nI (n + 1)), .ref ro, .int rn]))) (fun q => by subst q; have := hrc.symm.trans hY; first | cases this | simp at this)).trans hrc
  replace hso := (qs_ne (h := (qs (qs (qs (qs (qs h rc (.inl (cy 0, 1024, .inl (upd a_rc n p0)))) so (.inl (cy 0, 1024, .inl (upd a_so n p1)))) ot (.inl (cy 0, 1024, .inl (upd a_ot n p2)))) cn (.inl (cy 1, 1024, .inr (.inl (vp_updL a_cn n p3))))) la (.inl (cy 1, 1024, .inr (.inl (vp_updL a_la n p4)))))) (a := y) (o := (.inr (8, [.ref ms, .ref mb, .ref mw, .int gr, .int cd, .int ca, .int mv, .ref od, .ref pt, .int ct, .int fa, .ref fi, .ref re, .int cs, .ref rc, .ref rs, .ref so, .ref ot, .ref cn, .ref la, .int (nI (n + 1)), .ref ro, .int rn]))) (fun q => by subst q; have := hso.symm.trans hY; first | cases this | simp at this)).trans hso
  replace hot := (qs_ne (h := (qs (qs (qs (qs (qs h rc (.inl (cy 0, 1024, .inl (upd a_rc n p0)))) so (.inl (cy 0, 1024, .inl (upd a_so n p1)))) ot (.inl (cy 0, 1024, .inl (upd a_ot n p2)))) cn (.inl (cy 1, 1024, .inr (.inl (vp_updL a_cn n p3))))) la (.inl (cy 1, 1024, .inr (.inl (vp_updL a_la n p4)))))) (a := y) (o := (.inr (8, [.ref ms, .ref mb, .ref mw, .int gr, .int cd, .int ca, .int mv, .ref od, .ref pt, .int ct, .int fa, .ref fi, .ref re, .int cs, .ref rc, .ref rs, .ref so, .ref ot, .ref cn, .ref la, .int (nI (n + 1)), .ref ro, .int rn]))) (fun q => by subst q; have := hot.symm.trans hY; first | cases this | simp at this)).trans hot
  replace hcn := (qs_ne (h := (qs (qs (qs (qs (qs h rc (.inl (cy 0, 1024, .inl (upd a_rc n p0)))) so (.inl (cy 0, 1024, .inl (upd a_so n p1)))) ot (.inl (cy 0, 1024, .inl (upd a_ot n p2)))) cn (.inl (cy 1, 1024, .inr (.inl (vp_updL a_cn n p3))))) la (.inl (cy 1, 1024, .inr (.inl (vp_updL a_la n p4)))))) (a := y) (o := (.inr (8, [.ref ms, .ref mb, .ref mw, .int gr, .int cd, .int ca, .int mv, .ref od, .ref pt, .int ct, .int fa, .ref fi, .ref re, .int cs, .ref rc, .ref rs, .ref so, .ref ot, .ref cn, .ref la, .int (nI (n + 1)), .ref ro, .int rn]))) (fun q => by subst q; have := hcn.symm.trans hY; first | cases this | simp at this)).trans hcn
  replace hla := (qs_ne (h := (qs (qs (qs (qs (qs h rc (.inl (cy 0, 1024, .inl (upd a_rc n p0)))) so (.inl (cy 0, 1024, .inl (upd a_so n p1)))) ot (.inl (cy 0, 1024, .inl (upd a_ot n p2)))) cn (.inl (cy 1, 1024, .inr (.inl (vp_updL a_cn n p3))))) la (.inl (cy 1, 1024, .inr (.inl (vp_updL a_la n p4)))))) (a := y) (o := (.inr (8, [.ref ms, .ref mb, .ref mw, .int gr, .int cd, .int ca, .int mv, .ref od, .ref pt, .int ct, .int fa, .ref fi, .ref re, .int cs, .ref rc, .ref rs, .ref so, .ref ot, .ref cn, .ref la, .int (nI (n + 1)), .ref ro, .int rn]))) (fun q => by subst q; have := hla.symm.trans hY; first | cases this | simp at this)).trans hla
  replace hY : (qs (qs (qs (qs (qs (qs h rc (.inl (cy 0, 1024, .inl (upd a_rc n p0)))) so (.inl (cy 0, 1024, .inl (upd a_so n p1)))) ot (.inl (cy 0, 1024, .inl (upd a_ot n p2)))) cn (.inl (cy 1, 1024, .inr (.inl (vp_updL a_cn n p3))))) la (.inl (cy 1, 1024, .inr (.inl (vp_updL a_la n p4))))) y (.inr (8, [.ref ms, .ref mb, .ref mw, .int gr, .int cd, .int ca, .int mv, .ref od, .ref pt, .int ct, .int fa, .ref fi, .ref re, .int cs, .ref rc, .ref rs, .ref so, .ref ot, .ref cn, .ref la, .int (nI (n + 1)), .ref ro, .int rn]))) y = some (.inr (8, [.ref ms, .ref mb, .ref mw, .int gr, .int cd, .int ca, .int mv, .ref od, .ref pt, .int ct, .int fa, .ref fi, .ref re, .int cs, .ref rc, .ref rs, .ref so, .ref ot, .ref cn, .ref la, .int (nI (n + 1)), .ref ro, .int rn])) := qs_self
  replace hP : qP D N0 (qs (qs (qs (qs (qs (qs h rc (.inl (cy 0, 1024, .inl (upd a_rc n p0)))) so (.inl (cy 0, 1024, .inl (upd a_so n p1)))) ot (.inl (cy 0, 1024, .inl (upd a_ot n p2)))) cn (.inl (cy 1, 1024, .inr (.inl (vp_updL a_cn n p3))))) la (.inl (cy 1, 1024, .inr (.inl (vp_updL a_la n p4))))) y (.inr (8, [.ref ms, .ref mb, .ref mw, .int gr, .int cd, .int ca, .int mv, .ref od, .ref pt, .int ct, .int fa, .ref fi, .ref re, .int cs, .ref rc, .ref rs, .ref so, .ref ot, .ref cn, .ref la, .int (nI (n + 1)), .ref ro, .int rn]))) H := hP
  refine lv_aload_n hx hb dX8_cell_140 rfl (lv_at hl 0 rfl) ?_
  refine q_get C hP hY rfl inX8 20 (by decide) g1187 rfl dX8_cell_141 ?_
  refine lv_iconst (v := 1) hx hb dX8_cell_144 (by decide) ?_
  refine lv_isub hx hb dX8_cell_145 ?_
  rw [nI_pred]
  exact q_iret C hP hS ⟨rfl, rfl⟩ (by omega) dX8_cell_146

theorem dX8_cons_0 : decode cX8_cons 0 = .ok (.aload_n 0, 1) := by decide +kernel
theorem dX8_cons_1 : decode cX8_cons 1 = .ok (.getfield 39, 3) := by decide +kernel
theorem dX8_cons_4 : decode cX8_cons 4 = .ok (.aload_n 0, 1) := by decide +kernel
theorem dX8_cons_5 : decode cX8_cons 5 = .ok (.getfield 36, 3) := by decide +kernel
theorem dX8_cons_8 : decode cX8_cons 8 = .ok (.arraylength, 1) := by decide +kernel
theorem dX8_cons_9 : decode cX8_cons 9 = .ok (.if_icmp .ne 25, 3) := by decide +kernel
theorem dX8_cons_34 : decode cX8_cons 34 = .ok (.aload_n 0, 1) := by decide +kernel
theorem dX8_cons_35 : decode cX8_cons 35 = .ok (.getfield 32, 3) := by decide +kernel
theorem dX8_cons_38 : decode cX8_cons 38 = .ok (.aload_n 0, 1) := by decide +kernel
theorem dX8_cons_39 : decode cX8_cons 39 = .ok (.getfield 39, 3) := by decide +kernel
theorem dX8_cons_42 : decode cX8_cons 42 = .ok (.lload_n 1, 1) := by decide +kernel
theorem dX8_cons_43 : decode cX8_cons 43 = .ok (.lastore, 1) := by decide +kernel
theorem dX8_cons_44 : decode cX8_cons 44 = .ok (.aload_n 0, 1) := by decide +kernel
theorem dX8_cons_45 : decode cX8_cons 45 = .ok (.getfield 36, 3) := by decide +kernel
theorem dX8_cons_48 : decode cX8_cons 48 = .ok (.aload_n 0, 1) := by decide +kernel
theorem dX8_cons_49 : decode cX8_cons 49 = .ok (.getfield 39, 3) := by decide +kernel
theorem dX8_cons_52 : decode cX8_cons 52 = .ok (.iload_n 3, 1) := by decide +kernel
theorem dX8_cons_53 : decode cX8_cons 53 = .ok (.iastore, 1) := by decide +kernel
theorem dX8_cons_54 : decode cX8_cons 54 = .ok (.aload_n 0, 1) := by decide +kernel
theorem dX8_cons_55 : decode cX8_cons 55 = .ok (.dup, 1) := by decide +kernel
theorem dX8_cons_56 : decode cX8_cons 56 = .ok (.getfield 39, 3) := by decide +kernel
theorem dX8_cons_59 : decode cX8_cons 59 = .ok (.iconst 1, 1) := by decide +kernel
theorem dX8_cons_60 : decode cX8_cons 60 = .ok (.iadd, 1) := by decide +kernel
theorem dX8_cons_61 : decode cX8_cons 61 = .ok (.putfield 39, 3) := by decide +kernel
theorem dX8_cons_64 : decode cX8_cons 64 = .ok (.aload_n 0, 1) := by decide +kernel
theorem dX8_cons_65 : decode cX8_cons 65 = .ok (.getfield 39, 3) := by decide +kernel
theorem dX8_cons_68 : decode cX8_cons 68 = .ok (.iconst 1, 1) := by decide +kernel
theorem dX8_cons_69 : decode cX8_cons 69 = .ok (.isub, 1) := by decide +kernel
theorem dX8_cons_70 : decode cX8_cons 70 = .ok (.ireturn, 1) := by decide +kernel
set_option maxRecDepth 100000 in
set_option maxHeartbeats 4000000 in
theorem c_X8_cons_1 (l : Launch) (D : va_G) (cy : Nat → ClassId) (N0 : Nat) (h : qH) (y ms mb mw od pt fi re rc rs so ot cn la ro : Nat) (gr cd ca mv ct fa ce rn : Int32) (a_fi : Nat → Int64) (a_re : Nat → Int32) (n : Nat) (p0 : Int64) (p1 : Int32) (hY : h y = some (.inr (8, [.ref ms, .ref mb, .ref mw, .int gr, .int cd, .int ca, .int mv, .ref od, .ref pt, .int ct, .int fa, .ref fi, .ref re, .int (nI n), .ref rc, .ref rs, .ref so, .ref ot, .ref cn, .ref la, .int ce, .ref ro, .int rn]))) (hfi : h fi = some (.inl (cy 1, 1024, .inr (.inl a_fi)))) (hre : h re = some (.inl (cy 0, 1024, .inl a_re))) (hn : n < 1024) : qC l D cy N0 yX8_cons cX8_cons 4 (some .int) 0 0 0 0 [.ref y, .long p0, .int p1] h (fun v h' => v = some (.int (nI n)) ∧ h' = qs (qs (qs h fi (.inl (cy 1, 1024, .inr (.inl (vp_updL a_fi n p0))))) re (.inl (cy 0, 1024, .inl (upd a_re n p1)))) y (.inr (8, [.ref ms, .ref mb, .ref mw, .int gr, .int cd, .int ca, .int mv, .ref od, .ref pt, .int ct, .int fa, .ref fi, .ref re, .int (nI (n + 1)), .ref rc, .ref rs, .ref so, .ref ot, .ref cn, .ref la, .int ce, .ref ro, .int rn]))) (fun E h' => False) := by
  refine q_ofW (by decide) (by exact Nat.le_of_ble_eq_true rfl) ?_
  intro p e s m below meth c ls C hP hl
  have hx := C.1
  have hb := C.2.1
  have hS : va_S (qA N0) s.heap s.heap [] := va_S.rf
  have hl : lv_has ls 4 [(0, .ref y), (1, .long p0), (3, .int p1)] := hl
  refine lv_aload_n hx hb dX8_cons_0 rfl (lv_at hl 0 rfl) ?_
  refine q_get C hP hY rfl inX8 13 (by decide) g1180 rfl dX8_cons_1 ?_
  refine lv_aload_n hx hb dX8_cons_4 rfl (lv_at hl 0 rfl) ?_
  refine q_get C hP hY rfl inX8 12 (by decide) g1179 rfl dX8_cons_5 ?_
  refine q_alen C hP hre rfl dX8_cons_8 ?_
  refine lv_icmp_ne (tgt := 34) hx hb dX8_cons_9 (by decide) (fun _ => ?_) (fun c9 => absurd ((nI_eq (by omega) (by omega)).mp c9) (by omega))
  refine lv_aload_n hx hb dX8_cons_34 rfl (lv_at hl 0 rfl) ?_
  refine q_get C hP hY rfl inX8 11 (by decide) g1178 rfl dX8_cons_35 ?_
  refine lv_aload_n hx hb dX8_cons_38 rfl (lv_at hl 0 rfl) ?_
  refine q_get C hP hY rfl inX8 13 (by decide) g1180 rfl dX8_cons_39 ?_
  refine lv_lload_n hx hb dX8_cons_42 rfl (lv_at hl 1 rfl) ?_
  refine q_lastN C hP hS hfi (by omega) (by omega) dX8_cons_43 (fun H locs hP hS => ?_)
  replace hY := (qs_ne (h := h) (a := fi) (o := (.inl (cy 1, 1024, .inr (.inl (vp_updL a_fi n p0))))) (fun q => by subst q; have := hY.symm.trans hfi; first | cases this | simp at this)).trans hY
  replace hre := (qs_ne (h := h) (a := fi) (o := (.inl (cy 1, 1024, .inr (.inl (vp_updL a_fi n p0))))) (fun q => by subst q; have := hre.symm.trans hfi; first | cases this | simp at this)).trans hre
  replace hfi : (qs h fi (.inl (cy 1, 1024, .inr (.inl (vp_updL a_fi n p0))))) fi = some (.inl (cy 1, 1024, .inr (.inl (vp_updL a_fi n p0)))) := qs_self
  refine lv_aload_n hx hb dX8_cons_44 rfl (lv_at hl 0 rfl) ?_
  refine q_get C hP hY rfl inX8 12 (by decide) g1179 rfl dX8_cons_45 ?_
  refine lv_aload_n hx hb dX8_cons_48 rfl (lv_at hl 0 rfl) ?_
  refine q_get C hP hY rfl inX8 13 (by decide) g1180 rfl dX8_cons_49 ?_
  refine lv_iload_n hx hb dX8_cons_52 rfl (lv_at hl 2 rfl) ?_
  refine q_iastN C hP hS hre (by omega) (by omega) dX8_cons_53 (fun H locs hP hS => ?_)
  replace hY := (qs_ne (h := (qs h fi (.inl (cy 1, 1024, .inr (.inl (vp_updL a_fi n p0)))))) (a := re) (o := (.inl (cy 0, 1024, .inl (upd a_re n p1)))) (fun q => by subst q; have := hY.symm.trans hre; first | cases this | simp at this)).trans hY
  replace hfi := (qs_ne (h := (qs h fi (.inl (cy 1, 1024, .inr (.inl (vp_updL a_fi n p0)))))) (a := re) (o := (.inl (cy 0, 1024, .inl (upd a_re n p1)))) (fun q => by subst q; have := hfi.symm.trans hre; first | cases this | simp at this)).trans hfi
  replace hre : (qs (qs h fi (.inl (cy 1, 1024, .inr (.inl (vp_updL a_fi n p0))))) re (.inl (cy 0, 1024, .inl (upd a_re n p1)))) re = some (.inl (cy 0, 1024, .inl (upd a_re n p1))) := qs_self
  refine lv_aload_n hx hb dX8_cons_54 rfl (lv_at hl 0 rfl) ?_
  refine lv_dup hx hb dX8_cons_55 rfl ?_
  refine q_get C hP hY rfl inX8 13 (by decide) g1180 rfl dX8_cons_56 ?_
  refine lv_iconst (v := 1) hx hb dX8_cons_59 (by decide) ?_
  refine lv_iadd hx hb dX8_cons_60 ?_
  rw [nI_1]
  refine q_put C hP hS hY rfl inX8 tyX8 tyX8_ok nmX8 13 (by decide) g1180 rfl rfl rfl (Nat.le_of_ble_eq_true rfl) dX8_cons_61 (fun H locs hP hS => ?_)
  replace hfi := (qs_ne (h := (qs (qs h fi (.inl (cy 1, 1024, .inr (.inl (vp_updL a_fi n p0))))) re (.inl (cy 0, 1024, .inl (upd a_re n p1))))) (a := y) (o := (.inr (8, [.ref ms, .ref mb, .ref mw, .int gr, .int cd, .int ca, .int mv, .ref od, .ref pt, .int ct, .int fa, .ref fi, .ref re, .int (nI (n + 1)), .ref rc, .ref rs, .ref so, .ref ot, .ref cn, .ref la, .int ce, .ref ro, .int rn]))) (fun q => by subst q; have := hfi.symm.trans hY; first | cases this | simp at this)).trans hfi
  replace hre := (qs_ne (h := (qs (qs h fi (.inl (cy 1, 1024, .inr (.inl (vp_updL a_fi n p0))))) re (.inl (cy 0, 1024, .inl (upd a_re n p1))))) (a := y) (o := (.inr (8, [.ref ms, .ref mb, .ref mw, .int gr, .int cd, .int ca, .int mv, .ref od, .ref pt, .int ct, .int fa, .ref fi, .ref re, .int (nI (n + 1)), .ref rc, .ref rs, .ref so, .ref ot, .ref cn, .ref la, .int ce, .ref ro, .int rn]))) (fun q => by subst q; have := hre.symm.trans hY; first | cases this | simp at this)).trans hre
  replace hY : (qs (qs (qs h fi (.inl (cy 1, 1024, .inr (.inl (vp_updL a_fi n p0))))) re (.inl (cy 0, 1024, .inl (upd a_re n p1)))) y (.inr (8, [.ref ms, .ref mb, .ref mw, .int gr, .int cd, .int ca, .int mv, .ref od, .ref pt, .int ct, .int fa, .ref fi, .ref re, .int (nI (n + 1)), .ref rc, .ref rs, .ref so, .ref ot, .ref cn, .ref la, .int ce, .ref ro, .int rn]))) y = some (.inr (8, [.ref ms, .ref mb, .ref mw, .int gr, .int cd, .int ca, .int mv, .ref od, .ref pt, .int ct, .int fa, .ref fi, .ref re, .int (nI (n + 1)), .ref rc, .ref rs, .ref so, .ref ot, .ref cn, .ref la, .int ce, .ref ro, .int rn])) := qs_self
  replace hP : qP D N0 (qs (qs (qs h fi (.inl (cy 1, 1024, .inr (.inl (vp_updL a_fi n p0))))) re (.inl (cy 0, 1024, .inl (upd a_re n p1)))) y (.inr (8, [.ref ms, .ref mb, .ref mw, .int gr, .int cd, .int ca, .int mv, .ref od, .ref pt, .int ct, .int fa, .ref fi, .ref re, .int (nI (n + 1)), .ref rc, .ref rs, .ref so, .ref ot, .ref cn, .ref la, .int ce, .ref ro, .int rn]))) H := hP
  refine lv_aload_n hx hb dX8_cons_64 rfl (lv_at hl 0 rfl) ?_
  refine q_get C hP hY rfl inX8 13 (by decide) g1180 rfl dX8_cons_65 ?_
  refine lv_iconst (v := 1) hx hb dX8_cons_68 (by decide) ?_
  refine lv_isub hx hb dX8_cons_69 ?_
  rw [nI_pred]
  exact q_iret C hP hS ⟨rfl, rfl⟩ (by omega) dX8_cons_70

theorem dX8_make_0 : decode cX8_make 0 = .ok (.aload_n 0, 1) := by decide +kernel
theorem dX8_make_1 : decode cX8_make 1 = .ok (.iload_n 1, 1) := by decide +kernel
theorem dX8_make_2 : decode cX8_make 2 = .ok (.invokestatic 96, 3) := by decide +kernel
theorem dX8_make_5 : decode cX8_make 5 = .ok (.ifCond .eq 17, 3) := by decide +kernel
theorem dX8_make_8 : decode cX8_make 8 = .ok (.iload_n 2, 1) := by decide +kernel
theorem dX8_make_9 : decode cX8_make 9 = .ok (.ifCond .lt 13, 3) := by decide +kernel
theorem dX8_make_12 : decode cX8_make 12 = .ok (.iload_n 2, 1) := by decide +kernel
theorem dX8_make_13 : decode cX8_make 13 = .ok (.bipush 6, 2) := by decide +kernel
theorem dX8_make_15 : decode cX8_make 15 = .ok (.if_icmp .gt 7, 3) := by decide +kernel
theorem dX8_make_18 : decode cX8_make 18 = .ok (.iconst 1, 1) := by decide +kernel
theorem dX8_make_19 : decode cX8_make 19 = .ok (.goto 4, 3) := by decide +kernel
theorem dX8_make_22 : decode cX8_make 22 = .ok (.iconst 0, 1) := by decide +kernel
theorem dX8_make_23 : decode cX8_make 23 = .ok (.iconst 1, 1) := by decide +kernel
theorem dX8_make_24 : decode cX8_make 24 = .ok (.invokevirtual 100, 3) := by decide +kernel
theorem dX8_make_27 : decode cX8_make 27 = .ok (.ifCond .ne 4, 3) := by decide +kernel
theorem dX8_make_30 : decode cX8_make 30 = .ok (.return_, 1) := by decide +kernel
theorem dX8_make_31 : decode cX8_make 31 = .ok (.aload_n 0, 1) := by decide +kernel
theorem dX8_make_32 : decode cX8_make 32 = .ok (.getfield 9, 3) := by decide +kernel
theorem dX8_make_35 : decode cX8_make 35 = .ok (.iload_n 1, 1) := by decide +kernel
theorem dX8_make_36 : decode cX8_make 36 = .ok (.aaload, 1) := by decide +kernel
theorem dX8_make_37 : decode cX8_make 37 = .ok (.astore_n 3, 1) := by decide +kernel
theorem dX8_make_38 : decode cX8_make 38 = .ok (.aload_n 3, 1) := by decide +kernel
theorem dX8_make_39 : decode cX8_make 39 = .ok (.iload_n 2, 1) := by decide +kernel
theorem dX8_make_40 : decode cX8_make 40 = .ok (.putfield 75, 3) := by decide +kernel
theorem dX8_make_43 : decode cX8_make 43 = .ok (.aload_n 3, 1) := by decide +kernel
theorem dX8_make_44 : decode cX8_make 44 = .ok (.iconst 0, 1) := by decide +kernel
theorem dX8_make_45 : decode cX8_make 45 = .ok (.putfield 78, 3) := by decide +kernel
theorem dX8_make_48 : decode cX8_make 48 = .ok (.aload_n 3, 1) := by decide +kernel
theorem dX8_make_49 : decode cX8_make 49 = .ok (.iconst 0, 1) := by decide +kernel
theorem dX8_make_50 : decode cX8_make 50 = .ok (.putfield 81, 3) := by decide +kernel
theorem dX8_make_53 : decode cX8_make 53 = .ok (.aload_n 3, 1) := by decide +kernel
theorem dX8_make_54 : decode cX8_make 54 = .ok (.iconst 0, 1) := by decide +kernel
theorem dX8_make_55 : decode cX8_make 55 = .ok (.putfield 84, 3) := by decide +kernel
theorem dX8_make_58 : decode cX8_make 58 = .ok (.aload_n 3, 1) := by decide +kernel
theorem dX8_make_59 : decode cX8_make 59 = .ok (.iconst (-1), 1) := by decide +kernel
theorem dX8_make_60 : decode cX8_make 60 = .ok (.putfield 87, 3) := by decide +kernel
theorem dX8_make_63 : decode cX8_make 63 = .ok (.return_, 1) := by decide +kernel
theorem dX8_kind_0 : decode cX8_kind 0 = .ok (.aload_n 0, 1) := by decide +kernel
theorem dX8_kind_1 : decode cX8_kind 1 = .ok (.iload_n 1, 1) := by decide +kernel
theorem dX8_kind_2 : decode cX8_kind 2 = .ok (.invokestatic 96, 3) := by decide +kernel
theorem dX8_kind_5 : decode cX8_kind 5 = .ok (.iconst 1, 1) := by decide +kernel
theorem dX8_kind_6 : decode cX8_kind 6 = .ok (.invokevirtual 100, 3) := by decide +kernel
theorem dX8_kind_9 : decode cX8_kind 9 = .ok (.ifCond .ne 5, 3) := by decide +kernel
theorem dX8_kind_12 : decode cX8_kind 12 = .ok (.iconst 0, 1) := by decide +kernel
theorem dX8_kind_13 : decode cX8_kind 13 = .ok (.ireturn, 1) := by decide +kernel
theorem dX8_kind_14 : decode cX8_kind 14 = .ok (.aload_n 0, 1) := by decide +kernel
theorem dX8_kind_15 : decode cX8_kind 15 = .ok (.getfield 9, 3) := by decide +kernel
theorem dX8_kind_18 : decode cX8_kind 18 = .ok (.iload_n 1, 1) := by decide +kernel
theorem dX8_kind_19 : decode cX8_kind 19 = .ok (.aaload, 1) := by decide +kernel
theorem dX8_kind_20 : decode cX8_kind 20 = .ok (.getfield 75, 3) := by decide +kernel
theorem dX8_kind_23 : decode cX8_kind 23 = .ok (.ireturn, 1) := by decide +kernel
theorem dX8_iterate_0 : decode cX8_iterate 0 = .ok (.aload_n 0, 1) := by decide +kernel
theorem dX8_iterate_1 : decode cX8_iterate 1 = .ok (.iload_n 1, 1) := by decide +kernel
theorem dX8_iterate_2 : decode cX8_iterate 2 = .ok (.invokestatic 96, 3) := by decide +kernel
theorem dX8_iterate_5 : decode cX8_iterate 5 = .ok (.ifCond .eq 19, 3) := by decide +kernel
theorem dX8_iterate_8 : decode cX8_iterate 8 = .ok (.iload 4, 2) := by decide +kernel
theorem dX8_iterate_10 : decode cX8_iterate 10 = .ok (.ifCond .lt 14, 3) := by decide +kernel
theorem dX8_iterate_13 : decode cX8_iterate 13 = .ok (.iload 4, 2) := by decide +kernel
theorem dX8_iterate_15 : decode cX8_iterate 15 = .ok (.bipush 6, 2) := by decide +kernel
theorem dX8_iterate_17 : decode cX8_iterate 17 = .ok (.if_icmp .gt 7, 3) := by decide +kernel
theorem dX8_iterate_20 : decode cX8_iterate 20 = .ok (.iconst 1, 1) := by decide +kernel
theorem dX8_iterate_21 : decode cX8_iterate 21 = .ok (.goto 4, 3) := by decide +kernel
theorem dX8_iterate_24 : decode cX8_iterate 24 = .ok (.iconst 0, 1) := by decide +kernel
theorem dX8_iterate_25 : decode cX8_iterate 25 = .ok (.iconst 1, 1) := by decide +kernel
theorem dX8_iterate_26 : decode cX8_iterate 26 = .ok (.invokevirtual 100, 3) := by decide +kernel
theorem dX8_iterate_29 : decode cX8_iterate 29 = .ok (.ifCond .ne 4, 3) := by decide +kernel
theorem dX8_iterate_32 : decode cX8_iterate 32 = .ok (.return_, 1) := by decide +kernel
theorem dX8_iterate_33 : decode cX8_iterate 33 = .ok (.aload_n 0, 1) := by decide +kernel
theorem dX8_iterate_34 : decode cX8_iterate 34 = .ok (.getfield 9, 3) := by decide +kernel
theorem dX8_iterate_37 : decode cX8_iterate 37 = .ok (.iload_n 1, 1) := by decide +kernel
theorem dX8_iterate_38 : decode cX8_iterate 38 = .ok (.aaload, 1) := by decide +kernel
theorem dX8_iterate_39 : decode cX8_iterate 39 = .ok (.astore 7, 2) := by decide +kernel
theorem dX8_iterate_41 : decode cX8_iterate 41 = .ok (.aload 7, 2) := by decide +kernel
theorem dX8_iterate_43 : decode cX8_iterate 43 = .ok (.bipush 6, 2) := by decide +kernel
theorem dX8_iterate_45 : decode cX8_iterate 45 = .ok (.putfield 75, 3) := by decide +kernel
theorem dX8_iterate_48 : decode cX8_iterate 48 = .ok (.aload 7, 2) := by decide +kernel
theorem dX8_iterate_50 : decode cX8_iterate 50 = .ok (.iconst 0, 1) := by decide +kernel
theorem dX8_iterate_51 : decode cX8_iterate 51 = .ok (.putfield 78, 3) := by decide +kernel
theorem dX8_iterate_54 : decode cX8_iterate 54 = .ok (.aload 7, 2) := by decide +kernel
theorem dX8_iterate_56 : decode cX8_iterate 56 = .ok (.iconst 0, 1) := by decide +kernel
theorem dX8_iterate_57 : decode cX8_iterate 57 = .ok (.putfield 84, 3) := by decide +kernel
theorem dX8_iterate_60 : decode cX8_iterate 60 = .ok (.aload 7, 2) := by decide +kernel
theorem dX8_iterate_62 : decode cX8_iterate 62 = .ok (.iconst (-1), 1) := by decide +kernel
theorem dX8_iterate_63 : decode cX8_iterate 63 = .ok (.putfield 87, 3) := by decide +kernel
theorem dX8_iterate_66 : decode cX8_iterate 66 = .ok (.aload 7, 2) := by decide +kernel
theorem dX8_iterate_68 : decode cX8_iterate 68 = .ok (.aload_n 0, 1) := by decide +kernel
theorem dX8_iterate_69 : decode cX8_iterate 69 = .ok (.lload_n 2, 1) := by decide +kernel
theorem dX8_iterate_70 : decode cX8_iterate 70 = .ok (.aload_n 0, 1) := by decide +kernel
theorem dX8_iterate_71 : decode cX8_iterate 71 = .ok (.iconst 1, 1) := by decide +kernel
theorem dX8_iterate_72 : decode cX8_iterate 72 = .ok (.iconst 0, 1) := by decide +kernel
theorem dX8_iterate_73 : decode cX8_iterate 73 = .ok (.iload 4, 2) := by decide +kernel
theorem dX8_iterate_75 : decode cX8_iterate 75 = .ok (.lload 5, 2) := by decide +kernel
theorem dX8_iterate_77 : decode cX8_iterate 77 = .ok (.lload_n 2, 1) := by decide +kernel
theorem dX8_iterate_78 : decode cX8_iterate 78 = .ok (.invokevirtual 188, 3) := by decide +kernel
theorem dX8_iterate_81 : decode cX8_iterate 81 = .ok (.invokevirtual 143, 3) := by decide +kernel
theorem dX8_iterate_84 : decode cX8_iterate 84 = .ok (.putfield 81, 3) := by decide +kernel
theorem dX8_iterate_87 : decode cX8_iterate 87 = .ok (.return_, 1) := by decide +kernel
theorem dX8_count_0 : decode cX8_count 0 = .ok (.aload_n 0, 1) := by decide +kernel
theorem dX8_count_1 : decode cX8_count 1 = .ok (.iload_n 1, 1) := by decide +kernel
theorem dX8_count_2 : decode cX8_count 2 = .ok (.ifCond .lt 12, 3) := by decide +kernel
theorem dX8_count_5 : decode cX8_count 5 = .ok (.iload_n 1, 1) := by decide +kernel
theorem dX8_count_6 : decode cX8_count 6 = .ok (.iconst 3, 1) := by decide +kernel
theorem dX8_count_7 : decode cX8_count 7 = .ok (.if_icmp .gt 7, 3) := by decide +kernel
theorem dX8_count_10 : decode cX8_count 10 = .ok (.iconst 1, 1) := by decide +kernel
theorem dX8_count_11 : decode cX8_count 11 = .ok (.goto 4, 3) := by decide +kernel
theorem dX8_count_14 : decode cX8_count 14 = .ok (.iconst 0, 1) := by decide +kernel
theorem dX8_count_15 : decode cX8_count 15 = .ok (.iconst 1, 1) := by decide +kernel
theorem dX8_count_16 : decode cX8_count 16 = .ok (.invokevirtual 100, 3) := by decide +kernel
theorem dX8_count_19 : decode cX8_count 19 = .ok (.ifCond .ne 5, 3) := by decide +kernel
theorem dX8_count_22 : decode cX8_count 22 = .ok (.iconst 0, 1) := by decide +kernel
theorem dX8_count_23 : decode cX8_count 23 = .ok (.ireturn, 1) := by decide +kernel
theorem dX8_count_24 : decode cX8_count 24 = .ok (.iload_n 1, 1) := by decide +kernel
theorem dX8_count_25 : decode cX8_count 25 = .ok (.ifCond .ne 8, 3) := by decide +kernel
theorem dX8_count_28 : decode cX8_count 28 = .ok (.aload_n 0, 1) := by decide +kernel
theorem dX8_count_29 : decode cX8_count 29 = .ok (.getfield 195, 3) := by decide +kernel
theorem dX8_count_32 : decode cX8_count 32 = .ok (.ireturn, 1) := by decide +kernel
theorem dX8_count_33 : decode cX8_count 33 = .ok (.iload_n 1, 1) := by decide +kernel
theorem dX8_count_34 : decode cX8_count 34 = .ok (.iconst 1, 1) := by decide +kernel
theorem dX8_count_35 : decode cX8_count 35 = .ok (.if_icmp .ne 8, 3) := by decide +kernel
theorem dX8_count_38 : decode cX8_count 38 = .ok (.aload_n 0, 1) := by decide +kernel
theorem dX8_count_39 : decode cX8_count 39 = .ok (.getfield 124, 3) := by decide +kernel
theorem dX8_count_42 : decode cX8_count 42 = .ok (.ireturn, 1) := by decide +kernel
theorem dX8_count_43 : decode cX8_count 43 = .ok (.iload_n 1, 1) := by decide +kernel
theorem dX8_count_44 : decode cX8_count 44 = .ok (.iconst 3, 1) := by decide +kernel
theorem dX8_count_45 : decode cX8_count 45 = .ok (.if_icmp .ne 5, 3) := by decide +kernel
theorem dX8_count_48 : decode cX8_count 48 = .ok (.iconst 0, 1) := by decide +kernel
theorem dX8_count_49 : decode cX8_count 49 = .ok (.ireturn, 1) := by decide +kernel
theorem dX8_count_50 : decode cX8_count 50 = .ok (.iconst 0, 1) := by decide +kernel
theorem dX8_count_51 : decode cX8_count 51 = .ok (.istore_n 2, 1) := by decide +kernel
theorem dX8_count_52 : decode cX8_count 52 = .ok (.iconst 0, 1) := by decide +kernel
theorem dX8_count_53 : decode cX8_count 53 = .ok (.istore_n 3, 1) := by decide +kernel
theorem dX8_count_54 : decode cX8_count 54 = .ok (.iload_n 3, 1) := by decide +kernel
theorem dX8_count_55 : decode cX8_count 55 = .ok (.iconst 4, 1) := by decide +kernel
theorem dX8_count_56 : decode cX8_count 56 = .ok (.if_icmp .ge 24, 3) := by decide +kernel
theorem dX8_count_59 : decode cX8_count 59 = .ok (.aload_n 0, 1) := by decide +kernel
theorem dX8_count_60 : decode cX8_count 60 = .ok (.getfield 15, 3) := by decide +kernel
theorem dX8_count_63 : decode cX8_count 63 = .ok (.iload_n 3, 1) := by decide +kernel
theorem dX8_count_64 : decode cX8_count 64 = .ok (.aaload, 1) := by decide +kernel
theorem dX8_count_65 : decode cX8_count 65 = .ok (.getfield 75, 3) := by decide +kernel
theorem dX8_count_68 : decode cX8_count 68 = .ok (.ifCond .lt 6, 3) := by decide +kernel
theorem dX8_count_74 : decode cX8_count 74 = .ok (.iinc 3 1, 3) := by decide +kernel
theorem dX8_count_77 : decode cX8_count 77 = .ok (.goto (-23), 3) := by decide +kernel
theorem dX8_count_80 : decode cX8_count 80 = .ok (.iload_n 2, 1) := by decide +kernel
theorem dX8_count_81 : decode cX8_count 81 = .ok (.ireturn, 1) := by decide +kernel