theorem dX1_init_0 : decode cX1_init 0 = .ok (.aload_n 0, 1) := by decide +kernel
theorem dX1_init_1 : decode cX1_init 1 = .ok (.invokespecial 3, 3) := by decide +kernel
theorem dX1_init_4 : decode cX1_init 4 = .ok (.aload_n 0, 1) := by decide +kernel
theorem dX1_init_5 : decode cX1_init 5 = .ok (.sipush 1000, 3) := by decide +kernel
theorem dX1_init_8 : decode cX1_init 8 = .ok (.newarray .long, 2) := by decide +kernel
theorem dX1_init_10 : decode cX1_init 10 = .ok (.putfield 9, 3) := by decide +kernel
theorem dX1_init_13 : decode cX1_init 13 = .ok (.return_, 1) := by decide +kernel
set_option maxRecDepth 100000 in
set_option maxHeartbeats 4000000 in
theorem c_X1_init (l : Launch) (D : va_G) (cy : Nat → ClassId) (N0 : Nat) (h : qH) (a : Nat) (ha : h a = some (.inr (1, [.null, .int 0, .int 0, .int 0, .null, .int 0]))) : qC l D cy N0 yX1_init cX1_init 1 none 1 12 1 1000 [.ref a] h (fun v h' => v = none ∧ ∃ r, h r = none ∧ h' = qs (qs h r (.inl (cy 1, 1000, .inr (.inl (fun _ => 0))))) a (.inr (1, [.ref r, .int 0, .int 0, .int 0, .null, .int 0]))) (fun E h' => False) := by
  refine q_ofW (by decide) (by exact Nat.le_of_ble_eq_true rfl) ?_
  intro p e s m below meth c ls C hP hl
  have hx := C.1
  have hb := C.2.1
  have hS : va_S (qA N0) s.heap s.heap [] := va_S.rf
  have hl : lv_has ls 1 [(0, .ref a)] := hl
  refine lv_aload_n hx hb dX1_init_0 rfl (lv_at hl 0 rfl) ?_
  refine q_obj C g41 g28 g29 hl.1 dX1_init_1 (by simp [q_catrf, q_cati, q_catl, q_cata, q_catn]) ?_
  refine lv_aload_n hx hb dX1_init_4 rfl (lv_at hl 0 rfl) ?_
  refine lv_sipush (v := 1000) hx hb dX1_init_5 (by decide) ?_
  refine q_newaJ (N := 1000) C g67 hP hS (by decide) (by decide) (by decide) (by first | decide | omega) (by first | decide | omega) dX1_init_8 (fun q8 H eq8 hP hS => ?_)
  have n_q8_a : a ≠ q8 := qne_of eq8 ha
  replace ha := qle_new (o := (.inl (cy 1, 1000, .inr (.inl (fun _ => 0))))) eq8 _ _ ha
  have fq8 : (qs h q8 (.inl (cy 1, 1000, .inr (.inl (fun _ => 0))))) q8 = some (.inl (cy 1, 1000, .inr (.inl (fun _ => 0)))) := qs_self
  refine q_putF C hP hS ha rfl inX1 tyX1 tyX1_ok nmX1 0 (by decide) g42 rfl rfl rfl rfl rfl (Nat.le_of_ble_eq_true rfl) dX1_init_10 (fun H locs hP hS => ?_)
  replace fq8 := (qs_ne (h := (qs h q8 (.inl (cy 1, 1000, .inr (.inl (fun _ => 0)))))) (a := a) (o := (.inr (1, [.ref q8, .int 0, .int 0, .int 0, .null, .int 0]))) n_q8_a.symm).trans fq8
  replace ha : (qs (qs h q8 (.inl (cy 1, 1000, .inr (.inl (fun _ => 0))))) a (.inr (1, [.ref q8, .int 0, .int 0, .int 0, .null, .int 0]))) a = some (.inr (1, [.ref q8, .int 0, .int 0, .int 0, .null, .int 0])) := qs_self
  replace hP : qP D N0 (qs (qs h q8 (.inl (cy 1, 1000, .inr (.inl (fun _ => 0))))) a (.inr (1, [.ref q8, .int 0, .int 0, .int 0, .null, .int 0]))) H := hP
  exact q_vret C hP hS ⟨rfl, q8, eq8, rfl⟩ (by omega) dX1_init_13

theorem dX5_iterated_0 : decode cX5_iterated 0 = .ok (.new 8, 3) := by decide +kernel
theorem dX5_iterated_3 : decode cX5_iterated 3 = .ok (.dup, 1) := by decide +kernel
theorem dX5_iterated_4 : decode cX5_iterated 4 = .ok (.lload_n 0, 1) := by decide +kernel
theorem dX5_iterated_5 : decode cX5_iterated 5 = .ok (.iconst 1, 1) := by decide +kernel
theorem dX5_iterated_6 : decode cX5_iterated 6 = .ok (.invokespecial 25, 3) := by decide +kernel
theorem dX5_iterated_9 : decode cX5_iterated 9 = .ok (.astore 5, 2) := by decide +kernel
theorem dX5_iterated_11 : decode cX5_iterated 11 = .ok (.aload 5, 2) := by decide +kernel
theorem dX5_iterated_13 : decode cX5_iterated 13 = .ok (.iload_n 2, 1) := by decide +kernel
theorem dX5_iterated_14 : decode cX5_iterated 14 = .ok (.putfield 32, 3) := by decide +kernel
theorem dX5_iterated_17 : decode cX5_iterated 17 = .ok (.aload 5, 2) := by decide +kernel
theorem dX5_iterated_19 : decode cX5_iterated 19 = .ok (.lload_n 3, 1) := by decide +kernel
theorem dX5_iterated_20 : decode cX5_iterated 20 = .ok (.putfield 35, 3) := by decide +kernel
theorem dX5_iterated_23 : decode cX5_iterated 23 = .ok (.aload 5, 2) := by decide +kernel
theorem dX5_iterated_25 : decode cX5_iterated 25 = .ok (.areturn, 1) := by decide +kernel
set_option maxRecDepth 100000 in
set_option maxHeartbeats 4000000 in
theorem c_X5_iterated (l : Launch) (D : va_G) (cy : Nat → ClassId) (N0 : Nat) (h : qH) (v0 : Int64) (fc : Int32) (cc0 : Int64)  : qC l D cy N0 yX5_iterated cX5_iterated 6 (some (.object RX5)) 2 35 1 10 [.long v0, .int fc, .long cc0] h (fun v h' => ∃ q, v = some (.ref q) ∧ h q = none ∧ h' = qs h q (.inr (5, [.long v0, .int 1, .int fc, .long cc0, .int 0, .null, .null, .null, .int 0, .null]))) (fun E h' => False) := by
  refine q_ofW (by decide) (by exact Nat.le_of_ble_eq_true rfl) ?_
  intro p e s m below meth c ls C hP hl
  have hx := C.1
  have hb := C.2.1
  have hS : va_S (qA N0) s.heap s.heap [] := va_S.rf
  have hl : lv_has ls 6 [(0, .long v0), (2, .int fc), (3, .long cc0)] := hl
  have hle : qle h h := qle_rf
  refine q_new (ci := 5) (fs := [.long 0, .int 0, .int 0, .long 0, .int 0, .null, .null, .null, .int 0, .null]) C hP hS rfl inX5 tyX5 tyX5_ok g529 g530 g18 (fun j hj => by rcases (show j = 0 ∨ j = 1 ∨ j = 2 ∨ j = 3 ∨ j = 4 ∨ j = 5 ∨ j = 6 ∨ j = 7 ∨ j = 8 ∨ j = 9 by omega) with rfl | rfl | rfl | rfl | rfl | rfl | rfl | rfl | rfl | rfl <;> rfl) (by first | decide | omega) (by first | decide | omega) dX5_iterated_0 (fun q0 H eq0 hP hS => ?_)
  have hb_q0 := hle
  have oq0 := qle_none hle eq0
  replace hle := qle_tr hle (qle_new (o := (.inr (5, [.long 0, .int 0, .int 0, .long 0, .int 0, .null, .null, .null, .int 0, .null]))) eq0)
  have fq0 : (qs h q0 (.inr (5, [.long 0, .int 0, .int 0, .long 0, .int 0, .null, .null, .null, .int 0, .null]))) q0 = some (.inr (5, [.long 0, .int 0, .int 0, .long 0, .int 0, .null, .null, .null, .int 0, .null])) := qs_self
  refine lv_dup hx hb dX5_iterated_3 rfl ?_
  refine lv_lload_n hx hb dX5_iterated_4 rfl (lv_at hl 0 rfl) ?_
  refine lv_iconst (v := 1) hx hb dX5_iterated_5 (by decide) ?_
  refine q_callI (rest := [.ref q0]) C (c_X5_init l D cy N0 (qs h q0 (.inr (5, [.long 0, .int 0, .int 0, .long 0, .int 0, .null, .null, .null, .int 0, .null]))) q0 v0 1 fq0) kX5_init g531 g532 rfl hP hS (by first | decide | omega) hl.1 rfl (by simp [q_catrf, q_cati, q_catl, q_cata, q_catn]) (by first | decide | omega) dX5_iterated_6 (fun v hh1 H locs hq hP hS => ?_)
  obtain ⟨rfl, rfl⟩ := hq
  rw [qs_qs] at hP
  replace hle : qle h (qs h q0 (.inr (5, [.long v0, .int 1, .int 0, .long 0, .int 0, .null, .null, .null, .int 0, .null]))) := qle_set oq0 hb_q0
  replace fq0 : (qs h q0 (.inr (5, [.long v0, .int 1, .int 0, .long 0, .int 0, .null, .null, .null, .int 0, .null]))) q0 = some (.inr (5, [.long v0, .int 1, .int 0, .long 0, .int 0, .null, .null, .null, .int 0, .null])) := qs_self
  refine lv_astore (lv' := [(5, .ref q0), (0, .long v0), (2, .int fc), (3, .long cc0)]) hx hb dX5_iterated_9 hl (by decide) rfl (fun ls hl => ?_)
  refine lv_aload hx hb dX5_iterated_11 (lv_at hl 0 rfl) ?_
  refine lv_iload_n hx hb dX5_iterated_13 rfl (lv_at hl 2 rfl) ?_
  refine q_put C hP hS fq0 rfl inX5 tyX5 tyX5_ok nmX5 2 (by decide) g539 rfl rfl rfl (Nat.le_of_ble_eq_true rfl) dX5_iterated_14 (fun H locs hP hS => ?_)
  rw [qs_qs] at hP
  replace hle : qle h (qs h q0 (.inr (5, [.long v0, .int 1, .int fc, .long 0, .int 0, .null, .null, .null, .int 0, .null]))) := qle_set oq0 hb_q0
  replace fq0 : (qs h q0 (.inr (5, [.long v0, .int 1, .int fc, .long 0, .int 0, .null, .null, .null, .int 0, .null]))) q0 = some (.inr (5, [.long v0, .int 1, .int fc, .long 0, .int 0, .null, .null, .null, .int 0, .null])) := qs_self
  replace hP : qP D N0 (qs h q0 (.inr (5, [.long v0, .int 1, .int fc, .long 0, .int 0, .null, .null, .null, .int 0, .null]))) H := hP
  refine lv_aload hx hb dX5_iterated_17 (lv_at hl 0 rfl) ?_
  refine lv_lload_n hx hb dX5_iterated_19 rfl (lv_at hl 3 rfl) ?_
  refine q_put C hP hS fq0 rfl inX5 tyX5 tyX5_ok nmX5 3 (by decide) g541 rfl rfl rfl (Nat.le_of_ble_eq_true rfl) dX5_iterated_20 (fun H locs hP hS => ?_)
  rw [qs_qs] at hP
  replace hle : qle h (qs h q0 (.inr (5, [.long v0, .int 1, .int fc, .long cc0, .int 0, .null, .null, .null, .int 0, .null]))) := qle_set oq0 hb_q0
  replace fq0 : (qs h q0 (.inr (5, [.long v0, .int 1, .int fc, .long cc0, .int 0, .null, .null, .null, .int 0, .null]))) q0 = some (.inr (5, [.long v0, .int 1, .int fc, .long cc0, .int 0, .null, .null, .null, .int 0, .null])) := qs_self
  replace hP : qP D N0 (qs h q0 (.inr (5, [.long v0, .int 1, .int fc, .long cc0, .int 0, .null, .null, .null, .int 0, .null]))) H := hP
  refine lv_aload hx hb dX5_iterated_23 (lv_at hl 0 rfl) ?_
  exact q_aret (v := some q0) C (Or.inl ⟨_, rfl⟩) hP hS ⟨q0, rfl, oq0, rfl⟩ (by omega) dX5_iterated_25

theorem dX6_make_0 : decode cX6_make 0 = .ok (.iload_n 1, 1) := by decide +kernel
theorem dX6_make_1 : decode cX6_make 1 = .ok (.invokestatic 39, 3) := by decide +kernel
theorem dX6_make_4 : decode cX6_make 4 = .ok (.iload_n 2, 1) := by decide +kernel
theorem dX6_make_5 : decode cX6_make 5 = .ok (.bipush 6, 2) := by decide +kernel
theorem dX6_make_7 : decode cX6_make 7 = .ok (.invokestatic 43, 3) := by decide +kernel
theorem dX6_make_10 : decode cX6_make 10 = .ok (.aload_n 0, 1) := by decide +kernel
theorem dX6_make_11 : decode cX6_make 11 = .ok (.iload_n 1, 1) := by decide +kernel
theorem dX6_make_12 : decode cX6_make 12 = .ok (.iload_n 2, 1) := by decide +kernel
theorem dX6_make_13 : decode cX6_make 13 = .ok (.invokestatic 47, 3) := by decide +kernel
theorem dX6_make_16 : decode cX6_make 16 = .ok (.invokevirtual 51, 3) := by decide +kernel
theorem dX6_make_19 : decode cX6_make 19 = .ok (.pop, 1) := by decide +kernel
theorem dX6_make_20 : decode cX6_make 20 = .ok (.return_, 1) := by decide +kernel
set_option maxRecDepth 100000 in
set_option maxHeartbeats 4000000 in
theorem c_X6_make (l : Launch) (D : va_G) (cy : Nat → ClassId) (N0 : Nat) (h : qH) (x sl bl kr vr : Nat) (hm ca mv ed : Int32) (f : Nat → Option Nat) (p0 p1 : Int32) (hT : h x = some (.inr (6, [.int hm, .ref sl, .ref bl, .ref kr, .ref vr, .int ca, .int mv, .int ed]))) (hsl : h sl = some (.inl (cy 3, 24, .inr (.inr (.inr (.inr f)))))) : qC l D cy N0 yX6_make cX6_make 3 none 9 160 4 20 [.ref x, .int p0, .int p1] h (fun v h' => v = none ∧ qIn p1 6 ∧ ∃ i q, i < 24 ∧ p0 = nI i ∧ h q = none ∧ h' = qs (qs h q (.inr (2, [.int p1, .null, .null, .null, .null, .int 0]))) sl (.inl (cy 3, 24, .inr (.inr (.inr (.inr (va_up f i (some q)))))))) (fun E h' => h = h' ∧ E = "java/lang/IllegalArgumentException" ∧ ¬ (qSl p0 ∧ qIn p1 6)) := by
  refine q_ofW (by decide) (by exact Nat.le_of_ble_eq_true rfl) ?_
  intro p e s m below meth c ls C hP hl
  have hx := C.1
  have hb := C.2.1
  have hS : va_S (qA N0) s.heap s.heap [] := va_S.rf
  have hl : lv_has ls 3 [(0, .ref x), (1, .int p0), (2, .int p1)] := hl
  refine lv_iload_n hx hb dX6_make_0 rfl (lv_at hl 1 rfl) ?_
  refine q_callS (rest := []) C (c_X6_needSlot l D cy N0 (h) p0) kX6_needSlot g104 g105 hP hS (by first | decide | omega) hl.1 rfl (by decide) (by first | decide | omega) dX6_make_1 (fun q ce E h' H1 locs1 hE hP hS hc1 hc2 hc3 => by obtain ⟨rfl, rfl, hq⟩ := hE; exact q_out C hP hS hc1 hc2 hc3 ⟨rfl, rfl, fun g => hq g.1⟩ (by omega)) (fun v hh1 H locs hq hP hS => ?_)
  obtain ⟨rfl, rfl, gc0⟩ := hq
  obtain ⟨i, hi, rfl⟩ := gc0.of
  refine lv_iload_n hx hb dX6_make_4 rfl (lv_at hl 2 rfl) ?_
  refine lv_bipush (v := 6) hx hb dX6_make_5 (by decide) ?_
  refine q_callS (rest := []) C (c_X6_needWithin l D cy N0 (h) p1 6) kX6_needWithin g107 g108 hP hS (by first | decide | omega) hl.1 rfl (by decide) (by first | decide | omega) dX6_make_7 (fun q ce E h' H1 locs1 hE hP hS hc1 hc2 hc3 => by obtain ⟨rfl, rfl, hq⟩ := hE; exact q_out C hP hS hc1 hc2 hc3 ⟨rfl, rfl, fun g => hq.elim g.2.1 (fun q => q g.2.2)⟩ (by omega)) (fun v hh2 H locs hq hP hS => ?_)
  obtain ⟨rfl, rfl, gd1, gd2⟩ := hq; have gc1 : qIn p1 6 := ⟨gd1, gd2⟩
  refine lv_aload_n hx hb dX6_make_10 rfl (lv_at hl 0 rfl) ?_
  refine lv_iload_n hx hb dX6_make_11 rfl (lv_at hl 1 rfl) ?_
  refine lv_iload_n hx hb dX6_make_12 rfl (lv_at hl 2 rfl) ?_
  refine q_callS (rest := [.int (nI i), .ref x]) C (c_X2_emptyOf l D cy N0 (h) p1) kX2_emptyOf g181 g182 hP hS (by first | decide | omega) hl.1 rfl (by simp [q_catrf, q_cati, q_catl, q_cata, q_catn]) (by first | decide | omega) dX6_make_13 (fun q ce E h' H1 locs1 hE => hE.elim) (fun v hh3 H locs hq hP hS => ?_)
  obtain ⟨qe, rfl, eqe, rfl⟩ := hq
  have n_qe_x : x ≠ qe := qne_of eqe hT
  replace hT := qle_new (o := (.inr (2, [.int p1, .null, .null, .null, .null, .int 0]))) eqe _ _ hT
  have n_qe_sl : sl ≠ qe := qne_of eqe hsl
  replace hsl := qle_new (o := (.inr (2, [.int p1, .null, .null, .null, .null, .int 0]))) eqe _ _ hsl
  have fqe : (qs h qe (.inr (2, [.int p1, .null, .null, .null, .null, .int 0]))) qe = some (.inr (2, [.int p1, .null, .null, .null, .null, .int 0])) := qs_self
  refine q_callV (rest := []) C (c_X6_keep l D cy N0 (qs h qe (.inr (2, [.int p1, .null, .null, .null, .null, .int 0]))) x sl bl kr vr hm ca mv ed f i qe p1 none none none none 0 0 hT hsl hi ⟨fqe, 0, 0, 0, qFi.nil, qFi.nil, qFi.nil, by decide⟩) kX6_keep g218 g220 rfl gp1 g1 hP hS hT (by first | decide | omega) hl.1 rfl (by decide) (by first | decide | omega) dX6_make_16 (fun q ce E h' H1 locs1 hE => hE.elim) (fun v hh4 H locs hq hP hS => ?_)
  obtain ⟨rfl, rfl⟩ := hq
  replace hT := (qs_ne (h := (qs h qe (.inr (2, [.int p1, .null, .null, .null, .null, .int 0])))) (a := sl) (o := (.inl (cy 3, 24, .inr (.inr (.inr (.inr (va_up f i (some qe)))))))) (fun q => by subst q; have := hT.symm.trans hsl; first | cases this | simp at this)).trans hT
  replace fqe := (qs_ne (h := (qs h qe (.inr (2, [.int p1, .null, .null, .null, .null, .int 0])))) (a := sl) (o := (.inl (cy 3, 24, .inr (.inr (.inr (.inr (va_up f i (some qe)))))))) n_qe_sl.symm).trans fqe
  replace hsl : (qs (qs h qe (.inr (2, [.int p1, .null, .null, .null, .null, .int 0]))) sl (.inl (cy 3, 24, .inr (.inr (.inr (.inr (va_up f i (some qe)))))))) sl = some (.inl (cy 3, 24, .inr (.inr (.inr (.inr (va_up f i (some qe))))))) := qs_self
  refine lv_pop hx hb dX6_make_19 rfl ?_
  exact q_vret C hP hS ⟨rfl, gc1, i, qe, hi, rfl, eqe, rfl⟩ (by omega) dX6_make_20

theorem dX6_iterate_0 : decode cX6_iterate 0 = .ok (.iload_n 1, 1) := by decide +kernel
theorem dX6_iterate_1 : decode cX6_iterate 1 = .ok (.invokestatic 39, 3) := by decide +kernel
theorem dX6_iterate_4 : decode cX6_iterate 4 = .ok (.iload 4, 2) := by decide +kernel
theorem dX6_iterate_6 : decode cX6_iterate 6 = .ok (.bipush 6, 2) := by decide +kernel
theorem dX6_iterate_8 : decode cX6_iterate 8 = .ok (.invokestatic 43, 3) := by decide +kernel
theorem dX6_iterate_11 : decode cX6_iterate 11 = .ok (.aload_n 0, 1) := by decide +kernel
theorem dX6_iterate_12 : decode cX6_iterate 12 = .ok (.iload_n 1, 1) := by decide +kernel
theorem dX6_iterate_13 : decode cX6_iterate 13 = .ok (.lload_n 2, 1) := by decide +kernel
theorem dX6_iterate_14 : decode cX6_iterate 14 = .ok (.iload 4, 2) := by decide +kernel
theorem dX6_iterate_16 : decode cX6_iterate 16 = .ok (.lload 5, 2) := by decide +kernel
theorem dX6_iterate_18 : decode cX6_iterate 18 = .ok (.invokestatic 299, 3) := by decide +kernel
theorem dX6_iterate_21 : decode cX6_iterate 21 = .ok (.iconst 0, 1) := by decide +kernel
theorem dX6_iterate_22 : decode cX6_iterate 22 = .ok (.invokestatic 128, 3) := by decide +kernel
theorem dX6_iterate_25 : decode cX6_iterate 25 = .ok (.invokevirtual 51, 3) := by decide +kernel
theorem dX6_iterate_28 : decode cX6_iterate 28 = .ok (.pop, 1) := by decide +kernel
theorem dX6_iterate_29 : decode cX6_iterate 29 = .ok (.return_, 1) := by decide +kernel
set_option maxRecDepth 100000 in
set_option maxHeartbeats 4000000 in
theorem c_X6_iterate (l : Launch) (D : va_G) (cy : Nat → ClassId) (N0 : Nat) (h : qH) (x sl bl kr vr : Nat) (hm ca mv ed : Int32) (f : Nat → Option Nat) (p0 : Int32) (p1 : Int64) (p2 : Int32) (p3 : Int64) (hT : h x = some (.inr (6, [.int hm, .ref sl, .ref bl, .ref kr, .ref vr, .int ca, .int mv, .int ed]))) (hsl : h sl = some (.inl (cy 3, 24, .inr (.inr (.inr (.inr f)))))) : qC l D cy N0 yX6_iterate cX6_iterate 7 none 9 160 5 30 [.ref x, .int p0, .long p1, .int p2, .long p3] h (fun v h' => v = none ∧ qIn p2 6 ∧ ∃ i t q, i < 24 ∧ p0 = nI i ∧ h t = none ∧ (qs h t (.inr (5, [.long p1, .int 1, .int p2, .long p3, .int 0, .null, .null, .null, .int 0, .null]))) q = none ∧ h' = qs (qs (qs h t (.inr (5, [.long p1, .int 1, .int p2, .long p3, .int 0, .null, .null, .null, .int 0, .null]))) q (.inr (2, [.int 6, .null, .null, .null, .ref t, .int 0]))) sl (.inl (cy 3, 24, .inr (.inr (.inr (.inr (va_up f i (some q)))))))) (fun E h' => h = h' ∧ E = "java/lang/IllegalArgumentException" ∧ ¬ (qSl p0 ∧ qIn p2 6)) := by
  refine q_ofW (by decide) (by exact Nat.le_of_ble_eq_true rfl) ?_
  intro p e s m below meth c ls C hP hl
  have hx := C.1
  have hb := C.2.1
  have hS : va_S (qA N0) s.heap s.heap [] := va_S.rf
  have hl : lv_has ls 7 [(0, .ref x), (1, .int p0), (2, .long p1), (4, .int p2), (5, .long p3)] := hl
  refine lv_iload_n hx hb dX6_iterate_0 rfl (lv_at hl 1 rfl) ?_
  refine q_callS (rest := []) C (c_X6_needSlot l D cy N0 (h) p0) kX6_needSlot g104 g105 hP hS (by first | decide | omega) hl.1 rfl (by decide) (by first | decide | omega) dX6_iterate_1 (fun q ce E h' H1 locs1 hE hP hS hc1 hc2 hc3 => by obtain ⟨rfl, rfl, hq⟩ := hE; exact q_out C hP hS hc1 hc2 hc3 ⟨rfl, rfl, fun g => hq g.1⟩ (by omega)) (fun v hh1 H locs hq hP hS => ?_)
  obtain ⟨rfl, rfl, gc0⟩ := hq
  obtain ⟨i, hi, rfl⟩ := gc0.of
  refine lv_iload hx hb dX6_iterate_4 (lv_at hl 3 rfl) ?_
  refine lv_bipush (v := 6) hx hb dX6_iterate_6 (by decide) ?_
  refine q_callS (rest := []) C (c_X6_needWithin l D cy N0 (h) p2 6) kX6_needWithin g107 g108 hP hS (by first | decide | omega) hl.1 rfl (by decide) (by first | decide | omega) dX6_iterate_8 (fun q ce E h' H1 locs1 hE hP hS hc1 hc2 hc3 => by obtain ⟨rfl, rfl, hq⟩ := hE; exact q_out C hP hS hc1 hc2 hc3 ⟨rfl, rfl, fun g => hq.elim g.2.1 (fun q => q g.2.2)⟩ (by omega)) (fun v hh2 H locs hq hP hS => ?_)
  obtain ⟨rfl, rfl, gd1, gd2⟩ := hq; have gc1 : qIn p2 6 := ⟨gd1, gd2⟩
  refine lv_aload_n hx hb dX6_iterate_11 rfl (lv_at hl 0 rfl) ?_
  refine lv_iload_n hx hb dX6_iterate_12 rfl (lv_at hl 1 rfl) ?_
  refine lv_lload_n hx hb dX6_iterate_13 rfl (lv_at hl 2 rfl) ?_
  refine lv_iload hx hb dX6_iterate_14 (lv_at hl 3 rfl) ?_
  refine lv_lload hx hb dX6_iterate_16 (lv_at hl 4 rfl) ?_
  refine q_callS (rest := [.int (nI i), .ref x]) C (c_X5_iterated l D cy N0 (h) p1 p2 p3) kX5_iterated g672 g673 hP hS (by first | decide | omega) hl.1 rfl (by simp [q_catrf, q_cati, q_catl, q_cata, q_catn]) (by first | decide | omega) dX6_iterate_18 (fun q ce E h' H1 locs1 hE => hE.elim) (fun v hh3 H locs hq hP hS => ?_)
  obtain ⟨qt, rfl, eqt, rfl⟩ := hq
  have n_qt_x : x ≠ qt := qne_of eqt hT
  replace hT := qle_new (o := (.inr (5, [.long p1, .int 1, .int p2, .long p3, .int 0, .null, .null, .null, .int 0, .null]))) eqt _ _ hT
  have n_qt_sl : sl ≠ qt := qne_of eqt hsl
  replace hsl := qle_new (o := (.inr (5, [.long p1, .int 1, .int p2, .long p3, .int 0, .null, .null, .null, .int 0, .null]))) eqt _ _ hsl
  have fqt : (qs h qt (.inr (5, [.long p1, .int 1, .int p2, .long p3, .int 0, .null, .null, .null, .int 0, .null]))) qt = some (.inr (5, [.long p1, .int 1, .int p2, .long p3, .int 0, .null, .null, .null, .int 0, .null])) := qs_self
  refine lv_iconst (v := 0) hx hb dX6_iterate_21 (by decide) ?_
  refine q_callS (rest := [.int (nI i), .ref x]) C (c_X2_ofStream l D cy N0 (qs h qt (.inr (5, [.long p1, .int 1, .int p2, .long p3, .int 0, .null, .null, .null, .int 0, .null]))) (some qt) 0) kX2_ofStream g580 g581 hP hS (by first | decide | omega) hl.1 rfl (by simp [q_catrf, q_cati, q_catl, q_cata, q_catn]) (by first | decide | omega) dX6_iterate_22 (fun q ce E h' H1 locs1 hE => hE.elim) (fun v hh4 H locs hq hP hS => ?_)
  obtain ⟨qe, rfl, eqe, rfl⟩ := hq
  have n_qe_x : x ≠ qe := qne_of eqe hT
  replace hT := qle_new (o := (.inr (2, [.int 6, .null, .null, .null, .ref qt, .int 0]))) eqe _ _ hT
  have n_qe_sl : sl ≠ qe := qne_of eqe hsl
  replace hsl := qle_new (o := (.inr (2, [.int 6, .null, .null, .null, .ref qt, .int 0]))) eqe _ _ hsl
  have n_qe_qt : qt ≠ qe := qne_of eqe fqt
  replace fqt := qle_new (o := (.inr (2, [.int 6, .null, .null, .null, .ref qt, .int 0]))) eqe _ _ fqt
  have fqe : (qs (qs h qt (.inr (5, [.long p1, .int 1, .int p2, .long p3, .int 0, .null, .null, .null, .int 0, .null]))) qe (.inr (2, [.int 6, .null, .null, .null, .ref qt, .int 0]))) qe = some (.inr (2, [.int 6, .null, .null, .null, .ref qt, .int 0])) := qs_self
  refine q_callV (rest := []) C (c_X6_keep l D cy N0 (qs (qs h qt (.inr (5, [.long p1, .int 1, .int p2, .long p3, .int 0, .null, .null, .null, .int 0, .null]))) qe (.inr (2, [.int 6, .null, .null, .null, .ref qt, .int 0]))) x sl bl kr vr hm ca mv ed f i qe 6 none none none (some qt) 0 0 hT hsl hi ⟨fqe, 0, 0, 0, qFi.nil, qFi.nil, qFi.nil, by decide⟩) kX6_keep g218 g220 rfl gp1 g1 hP hS hT (by first | decide | omega) hl.1 rfl (by decide) (by first | decide | omega) dX6_iterate_25 (fun q ce E h' H1 locs1 hE => hE.elim) (fun v hh5 H locs hq hP hS => ?_)
  obtain ⟨rfl, rfl⟩ := hq
  replace hT := (qs_ne (h := (qs (qs h qt (.inr (5, [.long p1, .int 1, .int p2, .long p3, .int 0, .null, .null, .null, .int 0, .null]))) qe (.inr (2, [.int 6, .null, .null, .null, .ref qt, .int 0])))) (a := sl) (o := (.inl (cy 3, 24, .inr (.inr (.inr (.inr (va_up f i (some qe)))))))) (fun q => by subst q; have := hT.symm.trans hsl; first | cases this | simp at this)).trans hT
  replace fqt := (qs_ne (h := (qs (qs h qt (.inr (5, [.long p1, .int 1, .int p2, .long p3, .int 0, .null, .null, .null, .int 0, .null]))) qe (.inr (2, [.int 6, .null, .null, .null, .ref qt, .int 0])))) (a := sl) (o := (.inl (cy 3, 24, .inr (.inr (.inr (.inr (va_up f i (some qe)))))))) n_qt_sl.symm).trans fqt
  replace fqe := (qs_ne (h := (qs (qs h qt (.inr (5, [.long p1, .int 1, .int p2, .long p3, .int 0, .null, .null, .null, .int 0, .null]))) qe (.inr (2, [.int 6, .null, .null, .null, .ref qt, .int 0])))) (a := sl) (o := (.inl (cy 3, 24, .inr (.inr (.inr (.inr (va_up f i (some qe)))))))) n_qe_sl.symm).trans fqe
  replace hsl : (qs (qs (qs h qt (.inr (5, [.long p1, .int 1, .int p2, .long p3, .int 0, .null, .null, .null, .int 0, .null]))) qe (.inr (2, [.int 6, .null, .null, .null, .ref qt, .int 0]))) sl (.inl (cy 3, 24, .inr (.inr (.inr (.inr (va_up f i (some qe)))))))) sl = some (.inl (cy 3, 24, .inr (.inr (.inr (.inr (va_up f i (some qe))))))) := qs_self
  refine lv_pop hx hb dX6_iterate_28 rfl ?_
  exact q_vret C hP hS ⟨rfl, gc1, i, qt, qe, hi, rfl, eqt, eqe, rfl⟩ (by omega) dX6_iterate_29

theorem dX6_kind_0 : decode cX6_kind 0 = .ok (.iload_n 1, 1) := by decide +kernel
theorem dX6_kind_1 : decode cX6_kind 1 = .ok (.invokestatic 39, 3) := by decide +kernel
theorem dX6_kind_4 : decode cX6_kind 4 = .ok (.aload_n 0, 1) := by decide +kernel
theorem dX6_kind_5 : decode cX6_kind 5 = .ok (.getfield 11, 3) := by decide +kernel
theorem dX6_kind_8 : decode cX6_kind 8 = .ok (.iload_n 1, 1) := by decide +kernel
theorem dX6_kind_9 : decode cX6_kind 9 = .ok (.aaload, 1) := by decide +kernel
theorem dX6_kind_10 : decode cX6_kind 10 = .ok (.astore_n 2, 1) := by decide +kernel
theorem dX6_kind_11 : decode cX6_kind 11 = .ok (.aload_n 2, 1) := by decide +kernel
theorem dX6_kind_12 : decode cX6_kind 12 = .ok (.ifnonnull 7, 3) := by decide +kernel
theorem dX6_kind_15 : decode cX6_kind 15 = .ok (.iconst (-1), 1) := by decide +kernel
theorem dX6_kind_16 : decode cX6_kind 16 = .ok (.goto 7, 3) := by decide +kernel
theorem dX6_kind_19 : decode cX6_kind 19 = .ok (.aload_n 2, 1) := by decide +kernel
theorem dX6_kind_20 : decode cX6_kind 20 = .ok (.getfield 63, 3) := by decide +kernel
theorem dX6_kind_23 : decode cX6_kind 23 = .ok (.ireturn, 1) := by decide +kernel
set_option maxRecDepth 100000 in
set_option maxHeartbeats 4000000 in
theorem c_X6_kind (l : Launch) (D : va_G) (cy : Nat → ClassId) (N0 : Nat) (h : qH) (x sl bl kr vr : Nat) (hm ca mv ed : Int32) (f : Nat → Option Nat) (p0 : Int32) (hT : h x = some (.inr (6, [.int hm, .ref sl, .ref bl, .ref kr, .ref vr, .int ca, .int mv, .int ed]))) (hsl : h sl = some (.inl (cy 3, 24, .inr (.inr (.inr (.inr f)))))) (hH : qHs h f) : qC l D cy N0 yX6_kind cX6_kind 3 (some .int) 8 125 1 6 [.ref x, .int p0] h (fun v h' => h = h' ∧ ∃ i, i < 24 ∧ p0 = nI i ∧ ((f i = none ∧ v = some (.int (-1))) ∨ ∃ (a : Nat) (k : Int32) (x1 x2 x3 x4 : Option Nat) (dp t : Int32), f i = some a ∧ qHd h a k x1 x2 x3 x4 dp t ∧ v = some (.int k))) (fun E h' => h = h' ∧ E = "java/lang/IllegalArgumentException" ∧ ¬ qSl p0) := by
  refine q_ofW (by decide) (by exact Nat.le_of_ble_eq_true rfl) ?_
  intro p e s m below meth c ls C hP hl
  have hx := C.1
  have hb := C.2.1
  have hS : va_S (qA N0) s.heap s.heap [] := va_S.rf
  have hl : lv_has ls 3 [(0, .ref x), (1, .int p0)] := hl
  refine lv_iload_n hx hb dX6_kind_0 rfl (lv_at hl 1 rfl) ?_
  refine q_callS (rest := []) C (c_X6_needSlot l D cy N0 (h) p0) kX6_needSlot g104 g105 hP hS (by first | decide | omega) hl.1 rfl (by decide) (by first | decide | omega) dX6_kind_1 (fun q ce E h' H1 locs1 hE hP hS hc1 hc2 hc3 => by obtain ⟨rfl, rfl, hq⟩ := hE; exact q_out C hP hS hc1 hc2 hc3 ⟨rfl, rfl, fun g => hq g⟩ (by omega)) (fun v hh1 H locs hq hP hS => ?_)
  obtain ⟨rfl, rfl, gc0⟩ := hq
  obtain ⟨i, hi, rfl⟩ := gc0.of
  refine lv_aload_n hx hb dX6_kind_4 rfl (lv_at hl 0 rfl) ?_
  refine q_get C hP hT rfl inX6 1 (by decide) g69 rfl dX6_kind_5 ?_
  refine lv_iload_n hx hb dX6_kind_8 rfl (lv_at hl 1 rfl) ?_
  refine q_aaldN C hP hsl rfl (by omega) (by omega) dX6_kind_9 ?_
  refine q_astore_n (lv' := [(2, va_rf (f i)), (0, .ref x), (1, .int (nI i))]) hx hb dX6_kind_10 rfl hl (by decide) rfl (fun ls hl => ?_)
  refine q_aload_n hx hb dX6_kind_11 rfl (lv_at hl 0 rfl) ?_
  rcases hfi : f i with _ | a
  · rw [hfi] at hl
    refine lv_ifnonnullN hx hb dX6_kind_12 ?_
    refine lv_iconst (v := -1) hx hb dX6_kind_15 (by decide) ?_
    refine lv_goto (tgt := 23) hx hb dX6_kind_16 (by decide) ?_
    exact q_iret C hP hS ⟨rfl, i, hi, rfl, Or.inl ⟨hfi, rfl⟩⟩ (by omega) dX6_kind_23
  · rw [hfi] at hl
    obtain ⟨k, x1, x2, x3, x4, dp, t, ha, ht⟩ := hH i hi a hfi
    refine lv_ifnonnull (tgt := 19) hx hb dX6_kind_12 (by decide) ?_
    refine lv_aload_n hx hb dX6_kind_19 rfl (lv_at hl 0 rfl) ?_
    refine q_get C hP ha rfl inX2 0 (by decide) g192 rfl dX6_kind_20 ?_
    exact q_iret C hP hS ⟨rfl, i, hi, rfl, Or.inr ⟨a, k, x1, x2, x3, x4, dp, t, hfi, ⟨ha, ht⟩, rfl⟩⟩ (by omega) dX6_kind_23

theorem q_ofWF {l : Launch} {D : va_G} {cy : Nat → ClassId} {N0 : Nat} {y : MethodName} {cc : ByteArray} {nL : Nat} {ret : Option FieldType} {fr lo mc ms : Nat} {av : List Value} {h : qH} {Post : Option Value → qH → Prop} {Exc : String → qH → Prop}
    (hy : plainFor y = true) (hn : (lg_sl av).length ≤ nL)
    (body : ∀ (p : Program) (e : Env) (s : State) (m : MethodId) (below : List Frame) (meth : Method) (c : Code) (ls : Array Slot), qX p l s m av.toArray meth c y.cls cc nL ret y.name D cy N0 [] → qP D N0 h s.heap → lv_has ls nL (lv_args 0 av) →
      W p l e (qR fr lo mc ms) s m av.toArray below meth c s.heap [] 0 0 (vx_MQ below (qQc D N0 Post) (qXc D N0 Exc) av.toArray s mc ms (qA N0)) (F0 m 0 ls [])) : qC l D cy N0 y cc nL ret fr lo mc ms av h Post Exc := by
  intro hst
  refine MetFree.of_bodySF (code := cc) (maxLocals := nL) (ret := ret) hy ?_ ?_
  · intro args s m h hn
    obtain ⟨meth, c, h1, h2, h3, h4, h5, h6, -, -⟩ := Cond.code_spec hn (atoms_spec (ws := .code y cc nL ret :: qG) h _ List.mem_cons_self)
    exact ⟨meth, c, h1, h2, h3, h4, h5, h6⟩
  · intro p e s m args below meth c s₁ B hml hP0 _
    have hh0 : s₁.heap = s.heap := by rw [B.state]; rfl
    have ht : ∀ x ∈ c.exceptionTable.toList, False := by
      obtain ⟨meth9, c9, h1, h2, -, -, -, -, h7, -⟩ := Cond.code_spec B.named (atoms_spec (ws := .code y cc nL ret :: qG) B.pre _ List.mem_cons_self)
      cases Option.some.inj (h1.symm.trans B.method)
      cases Option.some.inj (h2.symm.trans (Stand.of_body B).code)
      intro x hx
      rw [Array.isEmpty_iff.mp h7] at hx
      cases hx
    obtain ⟨rfl, hE, hP⟩ := hP0
    have hts := atoms_spec (ws := .code y cc nL ret :: qG) B.pre
    have hown : s.vm.findClass y.cls = some m.cls := findClass_of_methodNamed B.named
    have hw := body p e s m below meth c _ ⟨B.exec, B.bytes, B.returns, hml, hown, fun w hw => hts w (List.mem_cons_of_mem _ hw), B.notSynchronized, List.eq_nil_iff_forall_not_mem.mpr (fun x hx => (ht x hx).elim), (name_of_methodNamed B.named B.method).1, hE, hst⟩ hP (lv_entry av hn)
    rw [← lg_entry_eq] at hw
    obtain ⟨t, a1, o, b1, b2, b3⟩ := hw s₁ hh0 (Stand.of_body B)
    exact ⟨t, o, a1, b1, b2, b3⟩
def qfm (n : Int32) : Int32 := if 0 ≤ n ^^^ 3 then n - n / 3 * 3 else if n - n / 3 * 3 = 0 then n - n / 3 * 3 else n - n / 3 * 3 + 3
theorem dJ9_floorMod_7cf53_0 : decode cJ9_floorMod_7cf53 0 = .ok (.iload_n 0, 1) := by decide +kernel
theorem dJ9_floorMod_7cf53_1 : decode cJ9_floorMod_7cf53 1 = .ok (.iload_n 1, 1) := by decide +kernel
theorem dJ9_floorMod_7cf53_2 : decode cJ9_floorMod_7cf53 2 = .ok (.irem, 1) := by decide +kernel
theorem dJ9_floorMod_7cf53_3 : decode cJ9_floorMod_7cf53 3 = .ok (.istore_n 2, 1) := by decide +kernel
theorem dJ9_floorMod_7cf53_4 : decode cJ9_floorMod_7cf53 4 = .ok (.iload_n 0, 1) := by decide +kernel
theorem dJ9_floorMod_7cf53_5 : decode cJ9_floorMod_7cf53 5 = .ok (.iload_n 1, 1) := by decide +kernel
theorem dJ9_floorMod_7cf53_6 : decode cJ9_floorMod_7cf53 6 = .ok (.ixor, 1) := by decide +kernel
theorem dJ9_floorMod_7cf53_7 : decode cJ9_floorMod_7cf53 7 = .ok (.ifCond .ge 11, 3) := by decide +kernel
theorem dJ9_floorMod_7cf53_10 : decode cJ9_floorMod_7cf53 10 = .ok (.iload_n 2, 1) := by decide +kernel
theorem dJ9_floorMod_7cf53_11 : decode cJ9_floorMod_7cf53 11 = .ok (.ifCond .eq 7, 3) := by decide +kernel
theorem dJ9_floorMod_7cf53_14 : decode cJ9_floorMod_7cf53 14 = .ok (.iload_n 2, 1) := by decide +kernel
theorem dJ9_floorMod_7cf53_15 : decode cJ9_floorMod_7cf53 15 = .ok (.iload_n 1, 1) := by decide +kernel
theorem dJ9_floorMod_7cf53_16 : decode cJ9_floorMod_7cf53 16 = .ok (.iadd, 1) := by decide +kernel
theorem dJ9_floorMod_7cf53_17 : decode cJ9_floorMod_7cf53 17 = .ok (.ireturn, 1) := by decide +kernel
theorem dJ9_floorMod_7cf53_18 : decode cJ9_floorMod_7cf53 18 = .ok (.iload_n 2, 1) := by decide +kernel
theorem dJ9_floorMod_7cf53_19 : decode cJ9_floorMod_7cf53 19 = .ok (.ireturn, 1) := by decide +kernel
set_option maxRecDepth 100000 in
set_option maxHeartbeats 4000000 in
theorem c_J9_floorMod (l : Launch) (D : va_G) (cy : Nat → ClassId) (N0 : Nat) (h : qH) (n : Int32)  : qC l D cy N0 yJ9_floorMod_7cf53 cJ9_floorMod_7cf53 3 (some .int) 0 0 0 0 [.int n, .int 3] h (fun v h' => h = h' ∧ v = some (.int (qfm n))) (fun E h' => False) := by
  refine q_ofWF (by decide +kernel) (by exact Nat.le_of_ble_eq_true rfl) ?_
  intro p e s m below meth c ls C hP hl
  have hx := C.1
  have hb := C.2.1
  have hS : va_S (qA N0) s.heap s.heap [] := va_S.rf
  have hl : lv_has ls 3 [(0, .int n), (1, .int 3)] := hl
  refine lv_iload_n hx hb dJ9_floorMod_7cf53_0 rfl (lv_at hl 0 rfl) ?_
  refine lv_iload_n hx hb dJ9_floorMod_7cf53_1 rfl (lv_at hl 1 rfl) ?_
  refine lv_irem hx hb dJ9_floorMod_7cf53_2 (by decide) ?_
  refine lv_istore_n (lv' := [(2, .int (n - n / 3 * 3)), (0, .int n), (1, .int 3)]) hx hb dJ9_floorMod_7cf53_3 rfl hl (by decide) rfl (fun ls hl => ?_)
  refine lv_iload_n hx hb dJ9_floorMod_7cf53_4 rfl (lv_at hl 1 rfl) ?_
  refine lv_iload_n hx hb dJ9_floorMod_7cf53_5 rfl (lv_at hl 2 rfl) ?_
  refine lv_ixor hx hb dJ9_floorMod_7cf53_6 ?_
  refine lv_if_ge (tgt := 18) hx hb dJ9_floorMod_7cf53_7 (by decide) (fun c7 => ?_) (fun c7 => ?_)
  · refine lv_iload_n hx hb dJ9_floorMod_7cf53_18 rfl (lv_at hl 0 rfl) ?_
    exact q_iret C hP hS ⟨rfl, by unfold qfm; simp [*]⟩ (by omega) dJ9_floorMod_7cf53_19
  · refine lv_iload_n hx hb dJ9_floorMod_7cf53_10 rfl (lv_at hl 0 rfl) ?_
    refine lv_if_eq (tgt := 18) hx hb dJ9_floorMod_7cf53_11 (by decide) (fun c11 => ?_) (fun c11 => ?_)
    · refine lv_iload_n hx hb dJ9_floorMod_7cf53_18 rfl (lv_at hl 0 rfl) ?_
      exact q_iret C hP hS ⟨rfl, by unfold qfm; simp [*]⟩ (by omega) dJ9_floorMod_7cf53_19
    · refine lv_iload_n hx hb dJ9_floorMod_7cf53_14 rfl (lv_at hl 0 rfl) ?_
      refine lv_iload_n hx hb dJ9_floorMod_7cf53_15 rfl (lv_at hl 2 rfl) ?_
      refine lv_iadd hx hb dJ9_floorMod_7cf53_16 ?_
      exact q_iret C hP hS ⟨rfl, by unfold qfm; simp [*]⟩ (by omega) dJ9_floorMod_7cf53_17
