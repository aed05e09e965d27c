theorem qgrid_le {cy : Nat → ClassId} {h : qH} {q N K : Nat} (e : ∀ b, q ≤ b → h b = none) : qle h (qgrid cy h q N K) := fun a o ha => by
  have h1 : ¬ q ≤ a := fun z => by rw [e a z] at ha; cases ha
  unfold qgrid
  rw [if_neg (by omega), if_neg (by omega)]
  exact ha
theorem qle_del {h0 h h1 : qH} {a : Nat} (b : qle h0 h) (e : h0 a = none) (c : qle (qdel h a) h1) : qle h0 h1 := fun x o hx => c x o (qdel_at (b x o hx) (qne_of e hx))
theorem qRo.put {h h1 : qH} {f : Nat → Option Nat} {j r k v : Nat} {n st dp rw : Int32} (g : qRo h f j) (hl : qle h h1) (hr : h1 r = some (.inr (7, [.ref k, .ref v, .int (-1), .int n, .int st, .int dp, .int rw]))) : qRo h1 (va_up f j (some r)) (j + 1) := fun i hi => by
  rcases Nat.lt_succ_iff_lt_or_eq.mp hi with hi | rfl
  · obtain ⟨r', k', v', n', st', dp', rw', e1, e2⟩ := g i hi
    exact ⟨r', k', v', n', st', dp', rw', (va_up_ne f _ (by omega)).trans e1, hl _ _ e2⟩
  · exact ⟨r, k, v, n, st, dp, rw, va_up_self f _ _, hr⟩
theorem qRo.keep {h h1 : qH} {f : Nat → Option Nat} {j : Nat} (g : qRo h f j) (hl : ∀ a fs, h a = some (.inr (7, fs)) → h1 a = some (.inr (7, fs))) : qRo h1 f j := fun i hi => by
  obtain ⟨r', k', v', n', st', dp', rw', e1, e2⟩ := g i hi
  exact ⟨r', k', v', n', st', dp', rw', e1, hl _ _ e2⟩
theorem qRo.zero {h : qH} {f : Nat → Option Nat} : qRo h f 0 := fun i hi => absurd hi (Nat.not_lt_zero i)

theorem dX7_init_0 : decode cX7_init 0 = .ok (.aload_n 0, 1) := by decide +kernel
theorem dX7_init_1 : decode cX7_init 1 = .ok (.invokespecial 3, 3) := by decide +kernel
theorem dX7_init_4 : decode cX7_init 4 = .ok (.aload_n 0, 1) := by decide +kernel
theorem dX7_init_5 : decode cX7_init 5 = .ok (.sipush 1001, 3) := by decide +kernel
theorem dX7_init_8 : decode cX7_init 8 = .ok (.newarray .long, 2) := by decide +kernel
theorem dX7_init_10 : decode cX7_init 10 = .ok (.putfield 9, 3) := by decide +kernel
theorem dX7_init_13 : decode cX7_init 13 = .ok (.aload_n 0, 1) := by decide +kernel
theorem dX7_init_14 : decode cX7_init 14 = .ok (.sipush 1001, 3) := by decide +kernel
theorem dX7_init_17 : decode cX7_init 17 = .ok (.newarray .long, 2) := by decide +kernel
theorem dX7_init_19 : decode cX7_init 19 = .ok (.putfield 15, 3) := by decide +kernel
theorem dX7_init_22 : decode cX7_init 22 = .ok (.aload_n 0, 1) := by decide +kernel
theorem dX7_init_23 : decode cX7_init 23 = .ok (.iconst (-1), 1) := by decide +kernel
theorem dX7_init_24 : decode cX7_init 24 = .ok (.putfield 18, 3) := by decide +kernel
theorem dX7_init_27 : decode cX7_init 27 = .ok (.aload_n 0, 1) := by decide +kernel
theorem dX7_init_28 : decode cX7_init 28 = .ok (.iconst (-1), 1) := by decide +kernel
theorem dX7_init_29 : decode cX7_init 29 = .ok (.putfield 22, 3) := by decide +kernel
theorem dX7_init_32 : decode cX7_init 32 = .ok (.return_, 1) := by decide +kernel
set_option maxRecDepth 100000 in
set_option maxHeartbeats 4000000 in
theorem c_X7_init (l : Launch) (D : va_G) (cy : Nat → ClassId) (N0 : Nat) (h : qH) (a : Nat) (ha : h a = some (.inr (7, [.null, .null, .int 0, .int 0, .int 0, .int 0, .int 0]))) : qC l D cy N0 yX7_init cX7_init 1 none 1 12 2 2002 [.ref a] h (fun v h' => v = none ∧ ∃ k u, k ≠ u ∧ k ≠ a ∧ u ≠ a ∧ h k = none ∧ h u = none ∧ h' a = some (.inr (7, [.ref k, .ref u, .int (-1), .int 0, .int 0, .int 0, .int (-1)])) ∧ h' k = some (.inl (cy 1, 1001, .inr (.inl (fun _ => 0)))) ∧ h' u = some (.inl (cy 1, 1001, .inr (.inl (fun _ => 0)))) ∧ qle (qdel h a) h') (fun E h' => False) := by
  refine q_ofW (by decide) (by exact Nat.le_of_ble_eq_true rfl) ?_
  intro p e s m below meth c ls C hP hl
  have hx := C.1
  have hb := C.2.1
  have hS : va_S (qA N0) s.heap s.heap [] := va_S.rf
  have hl : lv_has ls 1 [(0, .ref a)] := hl
  have hle : qle (qdel h a) h := qdel_le
  have oa : qdel h a a = none := qdel_self
  refine lv_aload_n hx hb dX7_init_0 rfl (lv_at hl 0 rfl) ?_
  refine q_obj C g1136 g28 g29 hl.1 dX7_init_1 (by simp [q_catrf, q_cati, q_catl, q_cata, q_catn]) ?_
  refine lv_aload_n hx hb dX7_init_4 rfl (lv_at hl 0 rfl) ?_
  refine lv_sipush (v := 1001) hx hb dX7_init_5 (by decide) ?_
  refine q_newaJ (N := 1001) C g67 hP hS (by decide) (by decide) (by decide) (by first | decide | omega) (by first | decide | omega) dX7_init_8 (fun q8 H eq8 hP hS => ?_)
  have n_q8_a : a ≠ q8 := qne_of eq8 ha
  replace ha := qle_new (o := (.inl (cy 1, 1001, .inr (.inl (fun _ => 0))))) eq8 _ _ ha
  have hb_q8 := hle
  have oq8 := qle_none hle eq8
  replace hle := qle_tr hle (qle_new (o := (.inl (cy 1, 1001, .inr (.inl (fun _ => 0))))) eq8)
  have fq8 : (qs h q8 (.inl (cy 1, 1001, .inr (.inl (fun _ => 0))))) q8 = some (.inl (cy 1, 1001, .inr (.inl (fun _ => 0)))) := qs_self
  refine q_putF C hP hS ha rfl inX7 tyX7 tyX7_ok nmX7 0 (by decide) g1137 rfl rfl rfl rfl rfl (Nat.le_of_ble_eq_true rfl) dX7_init_10 (fun H locs hP hS => ?_)
  have hb_a := hle
  replace fq8 := (qs_ne (h := (qs h q8 (.inl (cy 1, 1001, .inr (.inl (fun _ => 0)))))) (a := a) (o := (.inr (7, [.ref q8, .null, .int 0, .int 0, .int 0, .int 0, .int 0]))) n_q8_a.symm).trans fq8
  replace hle : qle (qdel h a) (qs (qs h q8 (.inl (cy 1, 1001, .inr (.inl (fun _ => 0))))) a (.inr (7, [.ref q8, .null, .int 0, .int 0, .int 0, .int 0, .int 0]))) := qle_set oa hb_a
  replace ha : (qs (qs h q8 (.inl (cy 1, 1001, .inr (.inl (fun _ => 0))))) a (.inr (7, [.ref q8, .null, .int 0, .int 0, .int 0, .int 0, .int 0]))) a = some (.inr (7, [.ref q8, .null, .int 0, .int 0, .int 0, .int 0, .int 0])) := qs_self
  replace hP : qP D N0 (qs (qs h q8 (.inl (cy 1, 1001, .inr (.inl (fun _ => 0))))) a (.inr (7, [.ref q8, .null, .int 0, .int 0, .int 0, .int 0, .int 0]))) H := hP
  refine lv_aload_n hx hb dX7_init_13 rfl (lv_at hl 0 rfl) ?_
  refine lv_sipush (v := 1001) hx hb dX7_init_14 (by decide) ?_
  refine q_newaJ (N := 1001) C g67 hP hS (by decide) (by decide) (by decide) (by first | decide | omega) (by first | decide | omega) dX7_init_17 (fun q17 H eq17 hP hS => ?_)
  have n_q17_a : a ≠ q17 := qne_of eq17 ha
  replace ha := qle_new (o := (.inl (cy 1, 1001, .inr (.inl (fun _ => 0))))) eq17 _ _ ha
  have n_q17_q8 : q8 ≠ q17 := qne_of eq17 fq8
  replace fq8 := qle_new (o := (.inl (cy 1, 1001, .inr (.inl (fun _ => 0))))) eq17 _ _ fq8
  have hb_q17 := hle
  have oq17 := qle_none hle eq17
  replace hle := qle_tr hle (qle_new (o := (.inl (cy 1, 1001, .inr (.inl (fun _ => 0))))) eq17)
  have fq17 : (qs (qs (qs h q8 (.inl (cy 1, 1001, .inr (.inl (fun _ => 0))))) a (.inr (7, [.ref q8, .null, .int 0, .int 0, .int 0, .int 0, .int 0]))) q17 (.inl (cy 1, 1001, .inr (.inl (fun _ => 0))))) q17 = some (.inl (cy 1, 1001, .inr (.inl (fun _ => 0)))) := qs_self
  refine q_putF C hP hS ha rfl inX7 tyX7 tyX7_ok nmX7 1 (by decide) g1139 rfl rfl rfl rfl rfl (Nat.le_of_ble_eq_true rfl) dX7_init_19 (fun H locs hP hS => ?_)
  have hb_a := hle
  replace fq8 := (qs_ne (h := (qs (qs (qs h q8 (.inl (cy 1, 1001, .inr (.inl (fun _ => 0))))) a (.inr (7, [.ref q8, .null, .int 0, .int 0, .int 0, .int 0, .int 0]))) q17 (.inl (cy 1, 1001, .inr (.inl (fun _ => 0)))))) (a := a) (o := (.inr (7, [.ref q8, .ref q17, .int 0, .int 0, .int 0, .int 0, .int 0]))) n_q8_a.symm).trans fq8
  replace fq17 := (qs_ne (h := (qs (qs (qs h q8 (.inl (cy 1, 1001, .inr (.inl (fun _ => 0))))) a (.inr (7, [.ref q8, .null, .int 0, .int 0, .int 0, .int 0, .int 0]))) q17 (.inl (cy 1, 1001, .inr (.inl (fun _ => 0)))))) (a := a) (o := (.inr (7, [.ref q8, .ref q17, .int 0, .int 0, .int 0, .int 0, .int 0]))) n_q17_a.symm).trans fq17
  replace hle : qle (qdel h a) (qs (qs (qs (qs h q8 (.inl (cy 1, 1001, .inr (.inl (fun _ => 0))))) a (.inr (7, [.ref q8, .null, .int 0, .int 0, .int 0, .int 0, .int 0]))) q17 (.inl (cy 1, 1001, .inr (.inl (fun _ => 0))))) a (.inr (7, [.ref q8, .ref q17, .int 0, .int 0, .int 0, .int 0, .int 0]))) := qle_set oa hb_a
  replace ha : (qs (qs (qs (qs h q8 (.inl (cy 1, 1001, .inr (.inl (fun _ => 0))))) a (.inr (7, [.ref q8, .null, .int 0, .int 0, .int 0, .int 0, .int 0]))) q17 (.inl (cy 1, 1001, .inr (.inl (fun _ => 0))))) a (.inr (7, [.ref q8, .ref q17, .int 0, .int 0, .int 0, .int 0, .int 0]))) a = some (.inr (7, [.ref q8, .ref q17, .int 0, .int 0, .int 0, .int 0, .int 0])) := qs_self
  replace hP : qP D N0 (qs (qs (qs (qs h q8 (.inl (cy 1, 1001, .inr (.inl (fun _ => 0))))) a (.inr (7, [.ref q8, .null, .int 0, .int 0, .int 0, .int 0, .int 0]))) q17 (.inl (cy 1, 1001, .inr (.inl (fun _ => 0))))) a (.inr (7, [.ref q8, .ref q17, .int 0, .int 0, .int 0, .int 0, .int 0]))) H := hP
  refine lv_aload_n hx hb dX7_init_22 rfl (lv_at hl 0 rfl) ?_
  refine lv_iconst (v := -1) hx hb dX7_init_23 (by decide) ?_
  refine q_put C hP hS ha rfl inX7 tyX7 tyX7_ok nmX7 2 (by decide) g1141 rfl rfl rfl (Nat.le_of_ble_eq_true rfl) dX7_init_24 (fun H locs hP hS => ?_)
  rw [qs_qs] at hP
  replace fq8 := qs_re (o' := (.inr (7, [.ref q8, .ref q17, .int (-1), .int 0, .int 0, .int 0, .int 0]))) n_q8_a.symm fq8
  replace fq17 := qs_re (o' := (.inr (7, [.ref q8, .ref q17, .int (-1), .int 0, .int 0, .int 0, .int 0]))) n_q17_a.symm fq17
  replace hle : qle (qdel h a) (qs (qs (qs (qs h q8 (.inl (cy 1, 1001, .inr (.inl (fun _ => 0))))) a (.inr (7, [.ref q8, .null, .int 0, .int 0, .int 0, .int 0, .int 0]))) q17 (.inl (cy 1, 1001, .inr (.inl (fun _ => 0))))) a (.inr (7, [.ref q8, .ref q17, .int (-1), .int 0, .int 0, .int 0, .int 0]))) := qle_set oa hb_a
  replace ha : (qs (qs (qs (qs h q8 (.inl (cy 1, 1001, .inr (.inl (fun _ => 0))))) a (.inr (7, [.ref q8, .null, .int 0, .int 0, .int 0, .int 0, .int 0]))) q17 (.inl (cy 1, 1001, .inr (.inl (fun _ => 0))))) a (.inr (7, [.ref q8, .ref q17, .int (-1), .int 0, .int 0, .int 0, .int 0]))) a = some (.inr (7, [.ref q8, .ref q17, .int (-1), .int 0, .int 0, .int 0, .int 0])) := qs_self
  replace hP : qP D N0 (qs (qs (qs (qs h q8 (.inl (cy 1, 1001, .inr (.inl (fun _ => 0))))) a (.inr (7, [.ref q8, .null, .int 0, .int 0, .int 0, .int 0, .int 0]))) q17 (.inl (cy 1, 1001, .inr (.inl (fun _ => 0))))) a (.inr (7, [.ref q8, .ref q17, .int (-1), .int 0, .int 0, .int 0, .int 0]))) H := hP
  refine lv_aload_n hx hb dX7_init_27 rfl (lv_at hl 0 rfl) ?_
  refine lv_iconst (v := -1) hx hb dX7_init_28 (by decide) ?_
  refine q_put C hP hS ha rfl inX7 tyX7 tyX7_ok nmX7 6 (by decide) g1146 rfl rfl rfl (Nat.le_of_ble_eq_true rfl) dX7_init_29 (fun H locs hP hS => ?_)
  rw [qs_qs] at hP
  replace fq8 := qs_re (o' := (.inr (7, [.ref q8, .ref q17, .int (-1), .int 0, .int 0, .int 0, .int (-1)]))) n_q8_a.symm fq8
  replace fq17 := qs_re (o' := (.inr (7, [.ref q8, .ref q17, .int (-1), .int 0, .int 0, .int 0, .int (-1)]))) n_q17_a.symm fq17
  replace hle : qle (qdel h a) (qs (qs (qs (qs h q8 (.inl (cy 1, 1001, .inr (.inl (fun _ => 0))))) a (.inr (7, [.ref q8, .null, .int 0, .int 0, .int 0, .int 0, .int 0]))) q17 (.inl (cy 1, 1001, .inr (.inl (fun _ => 0))))) a (.inr (7, [.ref q8, .ref q17, .int (-1), .int 0, .int 0, .int 0, .int (-1)]))) := qle_set oa hb_a
  replace ha : (qs (qs (qs (qs h q8 (.inl (cy 1, 1001, .inr (.inl (fun _ => 0))))) a (.inr (7, [.ref q8, .null, .int 0, .int 0, .int 0, .int 0, .int 0]))) q17 (.inl (cy 1, 1001, .inr (.inl (fun _ => 0))))) a (.inr (7, [.ref q8, .ref q17, .int (-1), .int 0, .int 0, .int 0, .int (-1)]))) a = some (.inr (7, [.ref q8, .ref q17, .int (-1), .int 0, .int 0, .int 0, .int (-1)])) := qs_self
  replace hP : qP D N0 (qs (qs (qs (qs h q8 (.inl (cy 1, 1001, .inr (.inl (fun _ => 0))))) a (.inr (7, [.ref q8, .null, .int 0, .int 0, .int 0, .int 0, .int 0]))) q17 (.inl (cy 1, 1001, .inr (.inl (fun _ => 0))))) a (.inr (7, [.ref q8, .ref q17, .int (-1), .int 0, .int 0, .int 0, .int (-1)]))) H := hP
  exact q_vret C hP hS ⟨rfl, q8, q17, n_q17_q8, n_q8_a.symm, n_q17_a.symm, eq8, (by rw [qs_ne n_q17_a.symm, qs_ne n_q17_q8.symm] at eq17; exact eq17), ha, fq8, fq17, hle⟩ (by omega) dX7_init_32

theorem dX8_init_0 : decode cX8_init 0 = .ok (.aload_n 0, 1) := by decide +kernel
theorem dX8_init_1 : decode cX8_init 1 = .ok (.invokespecial 1, 3) := by decide +kernel
theorem dX8_init_4 : decode cX8_init 4 = .ok (.aload_n 0, 1) := by decide +kernel
theorem dX8_init_5 : decode cX8_init 5 = .ok (.bipush 24, 2) := by decide +kernel
theorem dX8_init_7 : decode cX8_init 7 = .ok (.anewarray 7, 3) := by decide +kernel
theorem dX8_init_10 : decode cX8_init 10 = .ok (.putfield 9, 3) := by decide +kernel
theorem dX8_init_13 : decode cX8_init 13 = .ok (.aload_n 0, 1) := by decide +kernel
theorem dX8_init_14 : decode cX8_init 14 = .ok (.iconst 4, 1) := by decide +kernel
theorem dX8_init_15 : decode cX8_init 15 = .ok (.anewarray 7, 3) := by decide +kernel
theorem dX8_init_18 : decode cX8_init 18 = .ok (.putfield 15, 3) := by decide +kernel
theorem dX8_init_21 : decode cX8_init 21 = .ok (.aload_n 0, 1) := by decide +kernel
theorem dX8_init_22 : decode cX8_init 22 = .ok (.new 7, 3) := by decide +kernel
theorem dX8_init_25 : decode cX8_init 25 = .ok (.dup, 1) := by decide +kernel
theorem dX8_init_26 : decode cX8_init 26 = .ok (.invokespecial 18, 3) := by decide +kernel
theorem dX8_init_29 : decode cX8_init 29 = .ok (.putfield 19, 3) := by decide +kernel
theorem dX8_init_32 : decode cX8_init 32 = .ok (.aload_n 0, 1) := by decide +kernel
theorem dX8_init_33 : decode cX8_init 33 = .ok (.sipush 1000, 3) := by decide +kernel
theorem dX8_init_36 : decode cX8_init 36 = .ok (.newarray .int, 2) := by decide +kernel
theorem dX8_init_38 : decode cX8_init 38 = .ok (.putfield 23, 3) := by decide +kernel
theorem dX8_init_41 : decode cX8_init 41 = .ok (.aload_n 0, 1) := by decide +kernel
theorem dX8_init_42 : decode cX8_init 42 = .ok (.bipush 8, 2) := by decide +kernel
theorem dX8_init_44 : decode cX8_init 44 = .ok (.sipush 1000, 3) := by decide +kernel
theorem dX8_init_47 : decode cX8_init 47 = .ok (.multianewarray 27 2, 4) := by decide +kernel
theorem dX8_init_51 : decode cX8_init 51 = .ok (.putfield 29, 3) := by decide +kernel
theorem dX8_init_54 : decode cX8_init 54 = .ok (.aload_n 0, 1) := by decide +kernel
theorem dX8_init_55 : decode cX8_init 55 = .ok (.sipush 1024, 3) := by decide +kernel
theorem dX8_init_58 : decode cX8_init 58 = .ok (.newarray .long, 2) := by decide +kernel
theorem dX8_init_60 : decode cX8_init 60 = .ok (.putfield 32, 3) := by decide +kernel
theorem dX8_init_63 : decode cX8_init 63 = .ok (.aload_n 0, 1) := by decide +kernel
theorem dX8_init_64 : decode cX8_init 64 = .ok (.sipush 1024, 3) := by decide +kernel
theorem dX8_init_67 : decode cX8_init 67 = .ok (.newarray .int, 2) := by decide +kernel
theorem dX8_init_69 : decode cX8_init 69 = .ok (.putfield 36, 3) := by decide +kernel
theorem dX8_init_72 : decode cX8_init 72 = .ok (.aload_n 0, 1) := by decide +kernel
theorem dX8_init_73 : decode cX8_init 73 = .ok (.iconst 1, 1) := by decide +kernel
theorem dX8_init_74 : decode cX8_init 74 = .ok (.putfield 39, 3) := by decide +kernel
theorem dX8_init_77 : decode cX8_init 77 = .ok (.aload_n 0, 1) := by decide +kernel
theorem dX8_init_78 : decode cX8_init 78 = .ok (.sipush 1024, 3) := by decide +kernel
theorem dX8_init_81 : decode cX8_init 81 = .ok (.newarray .int, 2) := by decide +kernel
theorem dX8_init_83 : decode cX8_init 83 = .ok (.putfield 43, 3) := by decide +kernel
theorem dX8_init_86 : decode cX8_init 86 = .ok (.aload_n 0, 1) := by decide +kernel
theorem dX8_init_87 : decode cX8_init 87 = .ok (.sipush 1024, 3) := by decide +kernel
theorem dX8_init_90 : decode cX8_init 90 = .ok (.newarray .int, 2) := by decide +kernel
theorem dX8_init_92 : decode cX8_init 92 = .ok (.putfield 46, 3) := by decide +kernel
theorem dX8_init_95 : decode cX8_init 95 = .ok (.aload_n 0, 1) := by decide +kernel
theorem dX8_init_96 : decode cX8_init 96 = .ok (.sipush 1024, 3) := by decide +kernel
theorem dX8_init_99 : decode cX8_init 99 = .ok (.newarray .int, 2) := by decide +kernel
theorem dX8_init_101 : decode cX8_init 101 = .ok (.putfield 49, 3) := by decide +kernel
theorem dX8_init_104 : decode cX8_init 104 = .ok (.aload_n 0, 1) := by decide +kernel
theorem dX8_init_105 : decode cX8_init 105 = .ok (.sipush 1024, 3) := by decide +kernel
theorem dX8_init_108 : decode cX8_init 108 = .ok (.newarray .int, 2) := by decide +kernel
theorem dX8_init_110 : decode cX8_init 110 = .ok (.putfield 52, 3) := by decide +kernel
theorem dX8_init_113 : decode cX8_init 113 = .ok (.aload_n 0, 1) := by decide +kernel
theorem dX8_init_114 : decode cX8_init 114 = .ok (.sipush 1024, 3) := by decide +kernel
theorem dX8_init_117 : decode cX8_init 117 = .ok (.newarray .long, 2) := by decide +kernel
theorem dX8_init_119 : decode cX8_init 119 = .ok (.putfield 55, 3) := by decide +kernel
theorem dX8_init_122 : decode cX8_init 122 = .ok (.aload_n 0, 1) := by decide +kernel
theorem dX8_init_123 : decode cX8_init 123 = .ok (.sipush 1024, 3) := by decide +kernel
theorem dX8_init_126 : decode cX8_init 126 = .ok (.newarray .long, 2) := by decide +kernel
theorem dX8_init_128 : decode cX8_init 128 = .ok (.putfield 58, 3) := by decide +kernel
theorem dX8_init_131 : decode cX8_init 131 = .ok (.aload_n 0, 1) := by decide +kernel
theorem dX8_init_132 : decode cX8_init 132 = .ok (.iconst 1, 1) := by decide +kernel
theorem dX8_init_133 : decode cX8_init 133 = .ok (.putfield 61, 3) := by decide +kernel
theorem dX8_init_136 : decode cX8_init 136 = .ok (.aload_n 0, 1) := by decide +kernel
theorem dX8_init_137 : decode cX8_init 137 = .ok (.sipush 4100, 3) := by decide +kernel
theorem dX8_init_140 : decode cX8_init 140 = .ok (.anewarray 64, 3) := by decide +kernel
theorem dX8_init_143 : decode cX8_init 143 = .ok (.putfield 65, 3) := by decide +kernel
theorem dX8_init_146 : decode cX8_init 146 = .ok (.aload_n 0, 1) := by decide +kernel
theorem dX8_init_147 : decode cX8_init 147 = .ok (.iload_n 1, 1) := by decide +kernel
theorem dX8_init_148 : decode cX8_init 148 = .ok (.iconst 3, 1) := by decide +kernel
theorem dX8_init_149 : decode cX8_init 149 = .ok (.irem, 1) := by decide +kernel
theorem dX8_init_150 : decode cX8_init 150 = .ok (.iconst 3, 1) := by decide +kernel
theorem dX8_init_151 : decode cX8_init 151 = .ok (.iadd, 1) := by decide +kernel
theorem dX8_init_152 : decode cX8_init 152 = .ok (.iconst 3, 1) := by decide +kernel
theorem dX8_init_153 : decode cX8_init 153 = .ok (.irem, 1) := by decide +kernel
theorem dX8_init_154 : decode cX8_init 154 = .ok (.putfield 69, 3) := by decide +kernel
theorem dX8_init_157 : decode cX8_init 157 = .ok (.iconst 0, 1) := by decide +kernel
theorem dX8_init_158 : decode cX8_init 158 = .ok (.istore_n 2, 1) := by decide +kernel
theorem dX8_init_159 : decode cX8_init 159 = .ok (.iload_n 2, 1) := by decide +kernel
theorem dX8_init_160 : decode cX8_init 160 = .ok (.bipush 24, 2) := by decide +kernel
theorem dX8_init_162 : decode cX8_init 162 = .ok (.if_icmp .ge 22, 3) := by decide +kernel
theorem dX8_init_165 : decode cX8_init 165 = .ok (.aload_n 0, 1) := by decide +kernel
theorem dX8_init_166 : decode cX8_init 166 = .ok (.getfield 9, 3) := by decide +kernel
theorem dX8_init_169 : decode cX8_init 169 = .ok (.iload_n 2, 1) := by decide +kernel
theorem dX8_init_170 : decode cX8_init 170 = .ok (.new 7, 3) := by decide +kernel
theorem dX8_init_173 : decode cX8_init 173 = .ok (.dup, 1) := by decide +kernel
theorem dX8_init_174 : decode cX8_init 174 = .ok (.invokespecial 18, 3) := by decide +kernel
theorem dX8_init_177 : decode cX8_init 177 = .ok (.aastore, 1) := by decide +kernel
theorem dX8_init_178 : decode cX8_init 178 = .ok (.iinc 2 1, 3) := by decide +kernel
theorem dX8_init_181 : decode cX8_init 181 = .ok (.goto (-22), 3) := by decide +kernel
theorem dX8_init_184 : decode cX8_init 184 = .ok (.iconst 0, 1) := by decide +kernel
theorem dX8_init_185 : decode cX8_init 185 = .ok (.istore_n 2, 1) := by decide +kernel
theorem dX8_init_186 : decode cX8_init 186 = .ok (.iload_n 2, 1) := by decide +kernel
theorem dX8_init_187 : decode cX8_init 187 = .ok (.iconst 4, 1) := by decide +kernel
theorem dX8_init_188 : decode cX8_init 188 = .ok (.if_icmp .ge 22, 3) := by decide +kernel
theorem dX8_init_191 : decode cX8_init 191 = .ok (.aload_n 0, 1) := by decide +kernel
theorem dX8_init_192 : decode cX8_init 192 = .ok (.getfield 15, 3) := by decide +kernel
theorem dX8_init_195 : decode cX8_init 195 = .ok (.iload_n 2, 1) := by decide +kernel
theorem dX8_init_196 : decode cX8_init 196 = .ok (.new 7, 3) := by decide +kernel
theorem dX8_init_199 : decode cX8_init 199 = .ok (.dup, 1) := by decide +kernel
theorem dX8_init_200 : decode cX8_init 200 = .ok (.invokespecial 18, 3) := by decide +kernel
theorem dX8_init_203 : decode cX8_init 203 = .ok (.aastore, 1) := by decide +kernel
theorem dX8_init_204 : decode cX8_init 204 = .ok (.iinc 2 1, 3) := by decide +kernel
theorem dX8_init_207 : decode cX8_init 207 = .ok (.goto (-21), 3) := by decide +kernel
theorem dX8_init_210 : decode cX8_init 210 = .ok (.return_, 1) := by decide +kernel
set_option maxRecDepth 100000 in
set_option maxHeartbeats 4000000 in
theorem c_X8_init (l : Launch) (D : va_G) (cy : Nat → ClassId) (N0 : Nat) (h : qH) (y : Nat) (p0 : Int32) (hY : h y = some (.inr (8, [.null, .null, .null, .int 0, .int 0, .int 0, .int 0, .null, .null, .int 0, .int 0, .null, .null, .int 0, .null, .null, .null, .null, .null, .null, .int 0, .null, .int 0]))) : qC l D cy N0 yX8_init cX8_init 3 none 2 40 110 85000 [.ref y, .int p0] h (fun v h' => v = none ∧ ∃ (ms mb mw od pt fi re rc rs so ot cn la ro : Nat) (gr : Int32) (f g : Nat → Option Nat), h' y = some (.inr (8, [.ref ms, .ref mb, .ref mw, .int gr, .int 0, .int 0, .int 0, .ref od, .ref pt, .int 0, .int 0, .ref fi, .ref re, .int 1, .ref rc, .ref rs, .ref so, .ref ot, .ref cn, .ref la, .int 1, .ref ro, .int 0])) ∧ h' ms = some (.inl (cy 5, 24, .inr (.inr (.inr (.inr f))))) ∧ h' mb = some (.inl (cy 5, 4, .inr (.inr (.inr (.inr g))))) ∧ qRo h' f 24 ∧ qRo h' g 4 ∧ h' fi = some (.inl (cy 1, 1024, .inr (.inl (fun _ => 0)))) ∧ h' re = some (.inl (cy 0, 1024, .inl (fun _ => 0))) ∧ h' rc = some (.inl (cy 0, 1024, .inl (fun _ => 0))) ∧ h' rs = some (.inl (cy 0, 1024, .inl (fun _ => 0))) ∧ h' so = some (.inl (cy 0, 1024, .inl (fun _ => 0))) ∧ h' ot = some (.inl (cy 0, 1024, .inl (fun _ => 0))) ∧ h' cn = some (.inl (cy 1, 1024, .inr (.inl (fun _ => 0)))) ∧ h' la = some (.inl (cy 1, 1024, .inr (.inl (fun _ => 0)))) ∧ rc ≠ so ∧ rc ≠ ot ∧ re ≠ rc ∧ so ≠ ot ∧ re ≠ so ∧ re ≠ ot ∧ cn ≠ la ∧ fi ≠ cn ∧ fi ≠ la ∧ qdel h y ms = none ∧ qdel h y mb = none ∧ qle (qdel h y) h') (fun E h' => False) := by
  refine q_ofW (by decide) (by exact Nat.le_of_ble_eq_true rfl) ?_
  intro p e s m below meth c ls C hP hl
  have hx := C.1
  have hb := C.2.1
  have hS : va_S (qA N0) s.heap s.heap [] := va_S.rf
  have hl : lv_has ls 3 [(0, .ref y), (1, .int p0)] := hl
  have hle : qle (qdel h y) h := qdel_le
  have oy : qdel h y y = none := qdel_self
  refine lv_aload_n hx hb dX8_init_0 rfl (lv_at hl 0 rfl) ?_
  refine q_obj C g1129 g28 g29 hl.1 dX8_init_1 (by simp [q_catrf, q_cati, q_catl, q_cata, q_catn]) ?_
  refine lv_aload_n hx hb dX8_init_4 rfl (lv_at hl 0 rfl) ?_
  refine lv_bipush (v := 24) hx hb dX8_init_5 (by decide) ?_
  refine q_newq (t0 := 5) (N := 24) C g1130 (by decide) rfl hP hS (by decide) (by decide) (by decide) (by first | decide | omega) (by first | decide | omega) dX8_init_7 (fun q7 H eq7 hP hS => ?_)
  obtain ⟨hv1, ehv1⟩ : ∃ z : qH, z = qs h q7 (.inl (cy 5, 24, .inr (.inr (.inr (.inr (fun _ => none)))))) := ⟨_, rfl⟩
  rw [← ehv1] at hP
  have khv1 : ∀ b o, b ≠ q7 → h b = some o → hv1 b = some o := by rw [ehv1]; exact fun b o nb hb => (qs_ne nb).trans hb
  have n_q7_y : y ≠ q7 := qne_of eq7 hY
  replace hY := khv1 _ _ n_q7_y hY
  have oq7 := qle_none hle eq7
  replace hle : qle (qdel h y) hv1 := fun b o hb => khv1 b o (qne_of oq7 hb) (hle b o hb)
  have fq7 : hv1 q7 = some (.inl (cy 5, 24, .inr (.inr (.inr (.inr (fun _ => none)))))) := by rw [ehv1]; exact qs_self
  clear ehv1
  refine q_putF C hP hS hY rfl inX8 tyX8 tyX8_ok nmX8 0 (by decide) g1167 rfl rfl rfl rfl rfl (Nat.le_of_ble_eq_true rfl) dX8_init_10 (fun H locs hP hS => ?_)
  replace hP : qP D N0 (qs hv1 y (.inr (8, [.ref q7, .null, .null, .int 0, .int 0, .int 0, .int 0, .null, .null, .int 0, .int 0, .null, .null, .int 0, .null, .null, .null, .null, .null, .null, .int 0, .null, .int 0]))) H := hP
  obtain ⟨hv2, ehv2⟩ : ∃ z : qH, z = qs hv1 y (.inr (8, [.ref q7, .null, .null, .int 0, .int 0, .int 0, .int 0, .null, .null, .int 0, .int 0, .null, .null, .int 0, .null, .null, .null, .null, .null, .null, .int 0, .null, .int 0])) := ⟨_, rfl⟩
  rw [← ehv2] at hP
  have khv2 : ∀ b o, b ≠ y → hv1 b = some o → hv2 b = some o := by rw [ehv2]; exact fun b o nb hb => (qs_ne nb).trans hb
  replace fq7 := khv2 _ _ n_q7_y.symm fq7
  replace hle : qle (qdel h y) hv2 := fun b o hb => khv2 b o (qne_of oy hb) (hle b o hb)
  replace hY : hv2 y = some (.inr (8, [.ref q7, .null, .null, .int 0, .int 0, .int 0, .int 0, .null, .null, .int 0, .int 0, .null, .null, .int 0, .null, .null, .null, .null, .null, .null, .int 0, .null, .int 0])) := by rw [ehv2]; exact qs_self
  clear ehv2
  refine lv_aload_n hx hb dX8_init_13 rfl (lv_at hl 0 rfl) ?_
  refine lv_iconst (v := 4) hx hb dX8_init_14 (by decide) ?_
  refine q_newq (t0 := 5) (N := 4) C g1130 (by decide) rfl hP hS (by decide) (by decide) (by decide) (by first | decide | omega) (by first | decide | omega) dX8_init_15 (fun q15 H eq15 hP hS => ?_)
  obtain ⟨hv3, ehv3⟩ : ∃ z : qH, z = qs hv2 q15 (.inl (cy 5, 4, .inr (.inr (.inr (.inr (fun _ => none)))))) := ⟨_, rfl⟩
  rw [← ehv3] at hP
  have khv3 : ∀ b o, b ≠ q15 → hv2 b = some o → hv3 b = some o := by rw [ehv3]; exact fun b o nb hb => (qs_ne nb).trans hb
  have n_q15_y : y ≠ q15 := qne_of eq15 hY
  replace hY := khv3 _ _ n_q15_y hY
  have n_q15_q7 : q7 ≠ q15 := qne_of eq15 fq7
  replace fq7 := khv3 _ _ n_q15_q7 fq7
  have oq15 := qle_none hle eq15
  replace hle : qle (qdel h y) hv3 := fun b o hb => khv3 b o (qne_of oq15 hb) (hle b o hb)
  have fq15 : hv3 q15 = some (.inl (cy 5, 4, .inr (.inr (.inr (.inr (fun _ => none)))))) := by rw [ehv3]; exact qs_self
  clear ehv3
  refine q_putF C hP hS hY rfl inX8 tyX8 tyX8_ok nmX8 1 (by decide) g1168 rfl rfl rfl rfl rfl (Nat.le_of_ble_eq_true rfl) dX8_init_18 (fun H locs hP hS => ?_)
  replace hP : qP D N0 (qs hv3 y (.inr (8, [.ref q7, .ref q15, .null, .int 0, .int 0, .int 0, .int 0, .null, .null, .int 0, .int 0, .null, .null, .int 0, .null, .null, .null, .null, .null, .null, .int 0, .null, .int 0]))) H := hP
  obtain ⟨hv4, ehv4⟩ : ∃ z : qH, z = qs hv3 y (.inr (8, [.ref q7, .ref q15, .null, .int 0, .int 0, .int 0, .int 0, .null, .null, .int 0, .int 0, .null, .null, .int 0, .null, .null, .null, .null, .null, .null, .int 0, .null, .int 0])) := ⟨_, rfl⟩
  rw [← ehv4] at hP
  have khv4 : ∀ b o, b ≠ y → hv3 b = some o → hv4 b = some o := by rw [ehv4]; exact fun b o nb hb => (qs_ne nb).trans hb
  replace fq7 := khv4 _ _ n_q7_y.symm fq7
  replace fq15 := khv4 _ _ n_q15_y.symm fq15
  replace hle : qle (qdel h y) hv4 := fun b o hb => khv4 b o (qne_of oy hb) (hle b o hb)
  replace hY : hv4 y = some (.inr (8, [.ref q7, .ref q15, .null, .int 0, .int 0, .int 0, .int 0, .null, .null, .int 0, .int 0, .null, .null, .int 0, .null, .null, .null, .null, .null, .null, .int 0, .null, .int 0])) := by rw [ehv4]; exact qs_self
  clear ehv4
  refine lv_aload_n hx hb dX8_init_21 rfl (lv_at hl 0 rfl) ?_
  refine q_new (ci := 7) (fs := [.null, .null, .int 0, .int 0, .int 0, .int 0, .int 0]) C hP hS rfl inX7 tyX7 tyX7_ok g1130 g1132 g5 (fun j hj => by rcases (show j = 0 ∨ j = 1 ∨ j = 2 ∨ j = 3 ∨ j = 4 ∨ j = 5 ∨ j = 6 by omega) with rfl | rfl | rfl | rfl | rfl | rfl | rfl <;> rfl) (by first | decide | omega) (by first | decide | omega) dX8_init_22 (fun q22 H eq22 hP hS => ?_)
  obtain ⟨hv5, ehv5⟩ : ∃ z : qH, z = qs hv4 q22 (.inr (7, [.null, .null, .int 0, .int 0, .int 0, .int 0, .int 0])) := ⟨_, rfl⟩
  rw [← ehv5] at hP
  have khv5 : ∀ b o, b ≠ q22 → hv4 b = some o → hv5 b = some o := by rw [ehv5]; exact fun b o nb hb => (qs_ne nb).trans hb
  have n_q22_y : y ≠ q22 := qne_of eq22 hY
  replace hY := khv5 _ _ n_q22_y hY
  have n_q22_q7 : q7 ≠ q22 := qne_of eq22 fq7
  replace fq7 := khv5 _ _ n_q22_q7 fq7
  have n_q22_q15 : q15 ≠ q22 := qne_of eq22 fq15
  replace fq15 := khv5 _ _ n_q22_q15 fq15
  have oq22 := qle_none hle eq22
  replace hle : qle (qdel h y) hv5 := fun b o hb => khv5 b o (qne_of oq22 hb) (hle b o hb)
  have fq22 : hv5 q22 = some (.inr (7, [.null, .null, .int 0, .int 0, .int 0, .int 0, .int 0])) := by rw [ehv5]; exact qs_self
  clear ehv5
  refine lv_dup hx hb dX8_init_25 rfl ?_
  refine q_callIN (host := RX8) (rest := [.ref q22, .ref y]) C (c_X7_init l D cy N0 (hv5) q22 fq22) kX7_init (by decide +kernel) g1134 rfl hP hS (by first | decide | omega) hl.1 rfl (by simp [q_catrf, q_cati, q_catl, q_cata, q_catn]) (by first | decide | omega) dX8_init_26 (fun v hh1 H locs hq hP hS => ?_)
  obtain ⟨rfl, kq22, uq22, -, -, -, -, -, zq22, -, -, hlhh1⟩ := hq
  replace hY := hlhh1 _ _ (qdel_at hY n_q22_y)
  replace fq7 := hlhh1 _ _ (qdel_at fq7 n_q22_q7)
  replace fq15 := hlhh1 _ _ (qdel_at fq15 n_q22_q15)
  replace fq22 := zq22
  replace hle := qle_del hle oq22 hlhh1
  refine q_putF C hP hS hY rfl inX8 tyX8 tyX8_ok nmX8 2 (by decide) g1169 rfl rfl rfl rfl rfl (Nat.le_of_ble_eq_true rfl) dX8_init_29 (fun H locs hP hS => ?_)
  replace hP : qP D N0 (qs hh1 y (.inr (8, [.ref q7, .ref q15, .ref q22, .int 0, .int 0, .int 0, .int 0, .null, .null, .int 0, .int 0, .null, .null, .int 0, .null, .null, .null, .null, .null, .null, .int 0, .null, .int 0]))) H := hP
  obtain ⟨hv6, ehv6⟩ : ∃ z : qH, z = qs hh1 y (.inr (8, [.ref q7, .ref q15, .ref q22, .int 0, .int 0, .int 0, .int 0, .null, .null, .int 0, .int 0, .null, .null, .int 0, .null, .null, .null, .null, .null, .null, .int 0, .null, .int 0])) := ⟨_, rfl⟩
  rw [← ehv6] at hP
  have khv6 : ∀ b o, b ≠ y → hh1 b = some o → hv6 b = some o := by rw [ehv6]; exact fun b o nb hb => (qs_ne nb).trans hb
  replace fq7 := khv6 _ _ n_q7_y.symm fq7
  replace fq15 := khv6 _ _ n_q15_y.symm fq15
  replace fq22 := khv6 _ _ n_q22_y.symm fq22
  replace hle : qle (qdel h y) hv6 := fun b o hb => khv6 b o (qne_of oy hb) (hle b o hb)
  replace hY : hv6 y = some (.inr (8, [.ref q7, .ref q15, .ref q22, .int 0, .int 0, .int 0, .int 0, .null, .null, .int 0, .int 0, .null, .null, .int 0, .null, .null, .null, .null, .null, .null, .int 0, .null, .int 0])) := by rw [ehv6]; exact qs_self
  clear ehv6
  refine lv_aload_n hx hb dX8_init_32 rfl (lv_at hl 0 rfl) ?_
  refine lv_sipush (v := 1000) hx hb dX8_init_33 (by decide) ?_
  refine q_newaI (N := 1000) C g1237 hP hS (by decide) (by decide) (by decide) (by first | decide | omega) (by first | decide | omega) dX8_init_36 (fun q36 H eq36 hP hS => ?_)
  obtain ⟨hv7, ehv7⟩ : ∃ z : qH, z = qs hv6 q36 (.inl (cy 0, 1000, .inl (fun _ => 0))) := ⟨_, rfl⟩
  rw [← ehv7] at hP
  have khv7 : ∀ b o, b ≠ q36 → hv6 b = some o → hv7 b = some o := by rw [ehv7]; exact fun b o nb hb => (qs_ne nb).trans hb
  have n_q36_y : y ≠ q36 := qne_of eq36 hY
  replace hY := khv7 _ _ n_q36_y hY
  have n_q36_q7 : q7 ≠ q36 := qne_of eq36 fq7
  replace fq7 := khv7 _ _ n_q36_q7 fq7
  have n_q36_q15 : q15 ≠ q36 := qne_of eq36 fq15
  replace fq15 := khv7 _ _ n_q36_q15 fq15
  have n_q36_q22 : q22 ≠ q36 := qne_of eq36 fq22
  replace fq22 := khv7 _ _ n_q36_q22 fq22
  have oq36 := qle_none hle eq36
  replace hle : qle (qdel h y) hv7 := fun b o hb => khv7 b o (qne_of oq36 hb) (hle b o hb)
  have fq36 : hv7 q36 = some (.inl (cy 0, 1000, .inl (fun _ => 0))) := by rw [ehv7]; exact qs_self
  clear ehv7
  refine q_putF C hP hS hY rfl inX8 tyX8 tyX8_ok nmX8 7 (by decide) g1174 rfl rfl rfl rfl rfl (Nat.le_of_ble_eq_true rfl) dX8_init_38 (fun H locs hP hS => ?_)
  replace hP : qP D N0 (qs hv7 y (.inr (8, [.ref q7, .ref q15, .ref q22, .int 0, .int 0, .int 0, .int 0, .ref q36, .null, .int 0, .int 0, .null, .null, .int 0, .null, .null, .null, .null, .null, .null, .int 0, .null, .int 0]))) H := hP
  obtain ⟨hv8, ehv8⟩ : ∃ z : qH, z = qs hv7 y (.inr (8, [.ref q7, .ref q15, .ref q22, .int 0, .int 0, .int 0, .int 0, .ref q36, .null, .int 0, .int 0, .null, .null, .int 0, .null, .null, .null, .null, .null, .null, .int 0, .null, .int 0])) := ⟨_, rfl⟩
  rw [← ehv8] at hP
  have khv8 : ∀ b o, b ≠ y → hv7 b = some o → hv8 b = some o := by rw [ehv8]; exact fun b o nb hb => (qs_ne nb).trans hb
  replace fq7 := khv8 _ _ n_q7_y.symm fq7
  replace fq15 := khv8 _ _ n_q15_y.symm fq15
  replace fq22 := khv8 _ _ n_q22_y.symm fq22
  replace fq36 := khv8 _ _ n_q36_y.symm fq36
  replace hle : qle (qdel h y) hv8 := fun b o hb => khv8 b o (qne_of oy hb) (hle b o hb)
  replace hY : hv8 y = some (.inr (8, [.ref q7, .ref q15, .ref q22, .int 0, .int 0, .int 0, .int 0, .ref q36, .null, .int 0, .int 0, .null, .null, .int 0, .null, .null, .null, .null, .null, .null, .int 0, .null, .int 0])) := by rw [ehv8]; exact qs_self
  clear ehv8
  refine lv_aload_n hx hb dX8_init_41 rfl (lv_at hl 0 rfl) ?_
  refine lv_bipush (v := 8) hx hb dX8_init_42 (by decide) ?_
  refine lv_sipush (v := 1000) hx hb dX8_init_44 (by decide) ?_
  refine q_mna (N := 8) (K := 1000) C g1163 g1237 hP hS (by decide) (by decide) (by decide) (by decide) (by decide) (by decide) (by first | decide | omega) (by first | decide | omega) dX8_init_47 (fun q47 H eq47 hP hS => ?_)
  replace hY := qgrid_le (cy := cy) (N := 8) (K := 1000) eq47 _ _ hY
  replace fq7 := qgrid_le (cy := cy) (N := 8) (K := 1000) eq47 _ _ fq7
  replace fq15 := qgrid_le (cy := cy) (N := 8) (K := 1000) eq47 _ _ fq15
  replace fq22 := qgrid_le (cy := cy) (N := 8) (K := 1000) eq47 _ _ fq22
  replace fq36 := qgrid_le (cy := cy) (N := 8) (K := 1000) eq47 _ _ fq36
  replace hle := qle_tr hle (qgrid_le (cy := cy) (N := 8) (K := 1000) eq47)
  refine q_putF C hP hS hY rfl inX8 tyX8 tyX8_ok nmX8 8 (by decide) g1175 rfl rfl rfl rfl rfl (Nat.le_of_ble_eq_true rfl) dX8_init_51 (fun H locs hP hS => ?_)
  replace hP : qP D N0 (qs (qgrid cy hv8 q47 8 1000) y (.inr (8, [.ref q7, .ref q15, .ref q22, .int 0, .int 0, .int 0, .int 0, .ref q36, .ref q47, .int 0, .int 0, .null, .null, .int 0, .null, .null, .null, .null, .null, .null, .int 0, .null, .int 0]))) H := hP
  obtain ⟨hv9, ehv9⟩ : ∃ z : qH, z = qs (qgrid cy hv8 q47 8 1000) y (.inr (8, [.ref q7, .ref q15, .ref q22, .int 0, .int 0, .int 0, .int 0, .ref q36, .ref q47, .int 0, .int 0, .null, .null, .int 0, .null, .null, .null, .null, .null, .null, .int 0, .null, .int 0])) := ⟨_, rfl⟩
  rw [← ehv9] at hP
  have khv9 : ∀ b o, b ≠ y → qgrid cy hv8 q47 8 1000 b = some o → hv9 b = some o := by rw [ehv9]; exact fun b o nb hb => (qs_ne nb).trans hb
  replace fq7 := khv9 _ _ n_q7_y.symm fq7
  replace fq15 := khv9 _ _ n_q15_y.symm fq15
  replace fq22 := khv9 _ _ n_q22_y.symm fq22
  replace fq36 := khv9 _ _ n_q36_y.symm fq36
  replace hle : qle (qdel h y) hv9 := fun b o hb => khv9 b o (qne_of oy hb) (hle b o hb)
  replace hY : hv9 y = some (.inr (8, [.ref q7, .ref q15, .ref q22, .int 0, .int 0, .int 0, .int 0, .ref q36, .ref q47, .int 0, .int 0, .null, .null, .int 0, .null, .null, .null, .null, .null, .null, .int 0, .null, .int 0])) := by rw [ehv9]; exact qs_self
  clear ehv9
  refine lv_aload_n hx hb dX8_init_54 rfl (lv_at hl 0 rfl) ?_
  refine lv_sipush (v := 1024) hx hb dX8_init_55 (by decide) ?_
  refine q_newaJ (N := 1024) C g67 hP hS (by decide) (by decide) (by decide) (by first | decide | omega) (by first | decide | omega) dX8_init_58 (fun q58 H eq58 hP hS => ?_)
  obtain ⟨hv10, ehv10⟩ : ∃ z : qH, z = qs hv9 q58 (.inl (cy 1, 1024, .inr (.inl (fun _ => 0)))) := ⟨_, rfl⟩
  rw [← ehv10] at hP
  have khv10 : ∀ b o, b ≠ q58 → hv9 b = some o → hv10 b = some o := by rw [ehv10]; exact fun b o nb hb => (qs_ne nb).trans hb
  have n_q58_y : y ≠ q58 := qne_of eq58 hY
  replace hY := khv10 _ _ n_q58_y hY
  have n_q58_q7 : q7 ≠ q58 := qne_of eq58 fq7
  replace fq7 := khv10 _ _ n_q58_q7 fq7
  have n_q58_q15 : q15 ≠ q58 := qne_of eq58 fq15
  replace fq15 := khv10 _ _ n_q58_q15 fq15
  have n_q58_q22 : q22 ≠ q58 := qne_of eq58 fq22
  replace fq22 := khv10 _ _ n_q58_q22 fq22
  have n_q58_q36 : q36 ≠ q58 := qne_of eq58 fq36
  replace fq36 := khv10 _ _ n_q58_q36 fq36
  have oq58 := qle_none hle eq58
  replace hle : qle (qdel h y) hv10 := fun b o hb => khv10 b o (qne_of oq58 hb) (hle b o hb)
  have fq58 : hv10 q58 = some (.inl (cy 1, 1024, .inr (.inl (fun _ => 0)))) := by rw [ehv10]; exact qs_self
  clear ehv10
  refine q_put C hP hS hY rfl inX8 tyX8 tyX8_ok nmX8 11 (by decide) g1178 rfl rfl rfl (Nat.le_of_ble_eq_true rfl) dX8_init_60 (fun H locs hP hS => ?_)
  replace hP : qP D N0 (qs hv10 y (.inr (8, [.ref q7, .ref q15, .ref q22, .int 0, .int 0, .int 0, .int 0, .ref q36, .ref q47, .int 0, .int 0, .ref q58, .null, .int 0, .null, .null, .null, .null, .null, .null, .int 0, .null, .int 0]))) H := hP
  obtain ⟨hv11, ehv11⟩ : ∃ z : qH, z = qs hv10 y (.inr (8, [.ref q7, .ref q15, .ref q22, .int 0, .int 0, .int 0, .int 0, .ref q36, .ref q47, .int 0, .int 0, .ref q58, .null, .int 0, .null, .null, .null, .null, .null, .null, .int 0, .null, .int 0])) := ⟨_, rfl⟩
  rw [← ehv11] at hP
  have khv11 : ∀ b o, b ≠ y → hv10 b = some o → hv11 b = some o := by rw [ehv11]; exact fun b o nb hb => (qs_ne nb).trans hb
  replace fq7 := khv11 _ _ n_q7_y.symm fq7
  replace fq15 := khv11 _ _ n_q15_y.symm fq15
  replace fq22 := khv11 _ _ n_q22_y.symm fq22
  replace fq36 := khv11 _ _ n_q36_y.symm fq36
  replace fq58 := khv11 _ _ n_q58_y.symm fq58
  replace hle : qle (qdel h y) hv11 := fun b o hb => khv11 b o (qne_of oy hb) (hle b o hb)
  replace hY : hv11 y = some (.inr (8, [.ref q7, .ref q15, .ref q22, .int 0, .int 0, .int 0, .int 0, .ref q36, .ref q47, .int 0, .int 0, .ref q58, .null, .int 0, .null, .null, .null, .null, .null, .null, .int 0, .null, .int 0])) := by rw [ehv11]; exact qs_self
  clear ehv11
  refine lv_aload_n hx hb dX8_init_63 rfl (lv_at hl 0 rfl) ?_
  refine lv_sipush (v := 1024) hx hb dX8_init_64 (by decide) ?_
  refine q_newaI (N := 1024) C g1237 hP hS (by decide) (by decide) (by decide) (by first | decide | omega) (by first | decide | omega) dX8_init_67 (fun q67 H eq67 hP hS => ?_)
  obtain ⟨hv12, ehv12⟩ : ∃ z : qH, z = qs hv11 q67 (.inl (cy 0, 1024, .inl (fun _ => 0))) := ⟨_, rfl⟩
  rw [← ehv12] at hP
  have khv12 : ∀ b o, b ≠ q67 → hv11 b = some o → hv12 b = some o := by rw [ehv12]; exact fun b o nb hb => (qs_ne nb).trans hb
  have n_q67_y : y ≠ q67 := qne_of eq67 hY
  replace hY := khv12 _ _ n_q67_y hY
  have n_q67_q7 : q7 ≠ q67 := qne_of eq67 fq7
  replace fq7 := khv12 _ _ n_q67_q7 fq7
  have n_q67_q15 : q15 ≠ q67 := qne_of eq67 fq15
  replace fq15 := khv12 _ _ n_q67_q15 fq15
  have n_q67_q22 : q22 ≠ q67 := qne_of eq67 fq22
  replace fq22 := khv12 _ _ n_q67_q22 fq22
  have n_q67_q36 : q36 ≠ q67 := qne_of eq67 fq36
  replace fq36 := khv12 _ _ n_q67_q36 fq36
  have n_q67_q58 : q58 ≠ q67 := qne_of eq67 fq58
  replace fq58 := khv12 _ _ n_q67_q58 fq58
  have oq67 := qle_none hle eq67
  replace hle : qle (qdel h y) hv12 := fun b o hb => khv12 b o (qne_of oq67 hb) (hle b o hb)
  have fq67 : hv12 q67 = some (.inl (cy 0, 1024, .inl (fun _ => 0))) := by rw [ehv12]; exact qs_self
  clear ehv12
  refine q_put C hP hS hY rfl inX8 tyX8 tyX8_ok nmX8 12 (by decide) g1179 rfl rfl rfl (Nat.le_of_ble_eq_true rfl) dX8_init_69 (fun H locs hP hS => ?_)
  replace hP : qP D N0 (qs hv12 y (.inr (8, [.ref q7, .ref q15, .ref q22, .int 0, .int 0, .int 0, .int 0, .ref q36, .ref q47, .int 0, .int 0, .ref q58, .ref q67, .int 0, .null, .null, .null, .null, .null, .null, .int 0, .null, .int 0]))) H := hP
  obtain ⟨hv13, ehv13⟩ : ∃ z : qH, z = qs hv12 y (.inr (8, [.ref q7, .ref q15, .ref q22, .int 0, .int 0, .int 0, .int 0, .ref q36, .ref q47, .int 0, .int 0, .ref q58, .ref q67, .int 0, .null, .null, .null, .null, .null, .null, .int 0, .null, .int 0])) := ⟨_, rfl⟩
  rw [← ehv13] at hP
  have khv13 : ∀ b o, b ≠ y → hv12 b = some o → hv13 b = some o := by rw [ehv13]; exact fun b o nb hb => (qs_ne nb).trans hb
  replace fq7 := khv13 _ _ n_q7_y.symm fq7
  replace fq15 := khv13 _ _ n_q15_y.symm fq15
  replace fq22 := khv13 _ _ n_q22_y.symm fq22
  replace fq36 := khv13 _ _ n_q36_y.symm fq36
  replace fq58 := khv13 _ _ n_q58_y.symm fq58
  replace fq67 := khv13 _ _ n_q67_y.symm fq67
  replace hle : qle (qdel h y) hv13 := fun b o hb => khv13 b o (qne_of oy hb) (hle b o hb)
  replace hY : hv13 y = some (.inr (8, [.ref q7, .ref q15, .ref q22, .int 0, .int 0, .int 0, .int 0, .ref q36, .ref q47, .int 0, .int 0, .ref q58, .ref q67, .int 0, .null, .null, .null, .null, .null, .null, .int 0, .null, .int 0])) := by rw [ehv13]; exact qs_self
  clear ehv13
  refine lv_aload_n hx hb dX8_init_72 rfl (lv_at hl 0 rfl) ?_
  refine lv_iconst (v := 1) hx hb dX8_init_73 (by decide) ?_
  refine q_put C hP hS hY rfl inX8 tyX8 tyX8_ok nmX8 13 (by decide) g1180 rfl rfl rfl (Nat.le_of_ble_eq_true rfl) dX8_init_74 (fun H locs hP hS => ?_)
  replace hP : qP D N0 (qs hv13 y (.inr (8, [.ref q7, .ref q15, .ref q22, .int 0, .int 0, .int 0, .int 0, .ref q36, .ref q47, .int 0, .int 0, .ref q58, .ref q67, .int 1, .null, .null, .null, .null, .null, .null, .int 0, .null, .int 0]))) H := hP
  obtain ⟨hv14, ehv14⟩ : ∃ z : qH, z = qs hv13 y (.inr (8, [.ref q7, .ref q15, .ref q22, .int 0, .int 0, .int 0, .int 0, .ref q36, .ref q47, .int 0, .int 0, .ref q58, .ref q67, .int 1, .null, .null, .null, .null, .null, .null, .int 0, .null, .int 0])) := ⟨_, rfl⟩
  rw [← ehv14] at hP
  have khv14 : ∀ b o, b ≠ y → hv13 b = some o → hv14 b = some o := by rw [ehv14]; exact fun b o nb hb => (qs_ne nb).trans hb
  replace fq7 := khv14 _ _ n_q7_y.symm fq7
  replace fq15 := khv14 _ _ n_q15_y.symm fq15
  replace fq22 := khv14 _ _ n_q22_y.symm fq22
  replace fq36 := khv14 _ _ n_q36_y.symm fq36
  replace fq58 := khv14 _ _ n_q58_y.symm fq58
  replace fq67 := khv14 _ _ n_q67_y.symm fq67
  replace hle : qle (qdel h y) hv14 := fun b o hb => khv14 b o (qne_of oy hb) (hle b o hb)
  replace hY : hv14 y = some (.inr (8, [.ref q7, .ref q15, .ref q22, .int 0, .int 0, .int 0, .int 0, .ref q36, .ref q47, .int 0, .int 0, .ref q58, .ref q67, .int 1, .null, .null, .null, .null, .null, .null, .int 0, .null, .int 0])) := by rw [ehv14]; exact qs_self
  clear ehv14
  refine lv_aload_n hx hb dX8_init_77 rfl (lv_at hl 0 rfl) ?_
  refine lv_sipush (v := 1024) hx hb dX8_init_78 (by decide) ?_
  refine q_newaI (N := 1024) C g1237 hP hS (by decide) (by decide) (by decide) (by first | decide | omega) (by first | decide | omega) dX8_init_81 (fun q81 H eq81 hP hS => ?_)
  obtain ⟨hv15, ehv15⟩ : ∃ z : qH, z = qs hv14 q81 (.inl (cy 0, 1024, .inl (fun _ => 0))) := ⟨_, rfl⟩
  rw [← ehv15] at hP
  have khv15 : ∀ b o, b ≠ q81 → hv14 b = some o → hv15 b = some o := by rw [ehv15]; exact fun b o nb hb => (qs_ne nb).trans hb
  have n_q81_y : y ≠ q81 := qne_of eq81 hY
  replace hY := khv15 _ _ n_q81_y hY
  have n_q81_q7 : q7 ≠ q81 := qne_of eq81 fq7
  replace fq7 := khv15 _ _ n_q81_q7 fq7
  have n_q81_q15 : q15 ≠ q81 := qne_of eq81 fq15
  replace fq15 := khv15 _ _ n_q81_q15 fq15
  have n_q81_q22 : q22 ≠ q81 := qne_of eq81 fq22
  replace fq22 := khv15 _ _ n_q81_q22 fq22
  have n_q81_q36 : q36 ≠ q81 := qne_of eq81 fq36
  replace fq36 := khv15 _ _ n_q81_q36 fq36
  have n_q81_q58 : q58 ≠ q81 := qne_of eq81 fq58
  replace fq58 := khv15 _ _ n_q81_q58 fq58
  have n_q81_q67 : q67 ≠ q81 := qne_of eq81 fq67
  replace fq67 := khv15 _ _ n_q81_q67 fq67
  have oq81 := qle_none hle eq81
  replace hle : qle (qdel h y) hv15 := fun b o hb => khv15 b o (qne_of oq81 hb) (hle b o hb)
  have fq81 : hv15 q81 = some (.inl (cy 0, 1024, .inl (fun _ => 0))) := by rw [ehv15]; exact qs_self
  clear ehv15
  refine q_put C hP hS hY rfl inX8 tyX8 tyX8_ok nmX8 14 (by decide) g1181 rfl rfl rfl (Nat.le_of_ble_eq_true rfl) dX8_init_83 (fun H locs hP hS => ?_)
  replace hP : qP D N0 (qs hv15 y (.inr (8, [.ref q7, .ref q15, .ref q22, .int 0, .int 0, .int 0, .int 0, .ref q36, .ref q47, .int 0, .int 0, .ref q58, .ref q67, .int 1, .ref q81, .null, .null, .null, .null, .null, .int 0, .null, .int 0]))) H := hP
  obtain ⟨hv16, ehv16⟩ : ∃ z : qH, z = qs hv15 y (.inr (8, [.ref q7, .ref q15, .ref q22, .int 0, .int 0, .int 0, .int 0, .ref q36, .ref q47, .int 0, .int 0, .ref q58, .ref q67, .int 1, .ref q81, .null, .null, .null, .null, .null, .int 0, .null, .int 0])) := ⟨_, rfl⟩
  rw [← ehv16] at hP
  have khv16 : ∀ b o, b ≠ y → hv15 b = some o → hv16 b = some o := by rw [ehv16]; exact fun b o nb hb => (qs_ne nb).trans hb
  replace fq7 := khv16 _ _ n_q7_y.symm fq7
  replace fq15 := khv16 _ _ n_q15_y.symm fq15
  replace fq22 := khv16 _ _ n_q22_y.symm fq22
  replace fq36 := khv16 _ _ n_q36_y.symm fq36
  replace fq58 := khv16 _ _ n_q58_y.symm fq58
  replace fq67 := khv16 _ _ n_q67_y.symm fq67
  replace fq81 := khv16 _ _ n_q81_y.symm fq81
  replace hle : qle (qdel h y) hv16 := fun b o hb => khv16 b o (qne_of oy hb) (hle b o hb)
  replace hY : hv16 y = some (.inr (8, [.ref q7, .ref q15, .ref q22, .int 0, .int 0, .int 0, .int 0, .ref q36, .ref q47, .int 0, .int 0, .ref q58, .ref q67, .int 1, .ref q81, .null, .null, .null, .null, .null, .int 0, .null, .int 0])) := by rw [ehv16]; exact qs_self
  clear ehv16
  refine lv_aload_n hx hb dX8_init_86 rfl (lv_at hl 0 rfl) ?_
  refine lv_sipush (v := 1024) hx hb dX8_init_87 (by decide) ?_
  refine q_newaI (N := 1024) C g1237 hP hS (by decide) (by decide) (by decide) (by first | decide | omega) (by first | decide | omega) dX8_init_90 (fun q90 H eq90 hP hS => ?_)
  obtain ⟨hv17, ehv17⟩ : ∃ z : qH, z = qs hv16 q90 (.inl (cy 0, 1024, .inl (fun _ => 0))) := ⟨_, rfl⟩
  rw [← ehv17] at hP
  have khv17 : ∀ b o, b ≠ q90 → hv16 b = some o → hv17 b = some o := by rw [ehv17]; exact fun b o nb hb => (qs_ne nb).trans hb
  have n_q90_y : y ≠ q90 := qne_of eq90 hY
  replace hY := khv17 _ _ n_q90_y hY
  have n_q90_q7 : q7 ≠ q90 := qne_of eq90 fq7
  replace fq7 := khv17 _ _ n_q90_q7 fq7
  have n_q90_q15 : q15 ≠ q90 := qne_of eq90 fq15
  replace fq15 := khv17 _ _ n_q90_q15 fq15
  have n_q90_q22 : q22 ≠ q90 := qne_of eq90 fq22
  replace fq22 := khv17 _ _ n_q90_q22 fq22
  have n_q90_q36 : q36 ≠ q90 := qne_of eq90 fq36
  replace fq36 := khv17 _ _ n_q90_q36 fq36
  have n_q90_q58 : q58 ≠ q90 := qne_of eq90 fq58
  replace fq58 := khv17 _ _ n_q90_q58 fq58
  have n_q90_q67 : q67 ≠ q90 := qne_of eq90 fq67
  replace fq67 := khv17 _ _ n_q90_q67 fq67
  have n_q90_q81 : q81 ≠ q90 := qne_of eq90 fq81
  replace fq81 := khv17 _ _ n_q90_q81 fq81
  have oq90 := qle_none hle eq90
  replace hle : qle (qdel h y) hv17 := fun b o hb => khv17 b o (qne_of oq90 hb) (hle b o hb)
  have fq90 : hv17 q90 = some (.inl (cy 0, 1024, .inl (fun _ => 0))) := by rw [ehv17]; exact qs_self
  clear ehv17
  refine q_put C hP hS hY rfl inX8 tyX8 tyX8_ok nmX8 15 (by decide) g1182 rfl rfl rfl (Nat.le_of_ble_eq_true rfl) dX8_init_92 (fun H locs hP hS => ?_)
  replace hP : qP D N0 (qs hv17 y (.inr (8, [.ref q7, .ref q15, .ref q22, .int 0, .int 0, .int 0, .int 0, .ref q36, .ref q47, .int 0, .int 0, .ref q58, .ref q67, .int 1, .ref q81, .ref q90, .null, .null, .null, .null, .int 0, .null, .int 0]))) H := hP
  obtain ⟨hv18, ehv18⟩ : ∃ z : qH, z = qs hv17 y (.inr (8, [.ref q7, .ref q15, .ref q22, .int 0, .int 0, .int 0, .int 0, .ref q36, .ref q47, .int 0, .int 0, .ref q58, .ref q67, .int 1, .ref q81, .ref q90, .null, .null, .null, .null, .int 0, .null, .int 0])) := ⟨_, rfl⟩
  rw [← ehv18] at hP
  have khv18 : ∀ b o, b ≠ y → hv17 b = some o → hv18 b = some o := by rw [ehv18]; exact fun b o nb hb => (qs_ne nb).trans hb
  replace fq7 := khv18 _ _ n_q7_y.symm fq7
  replace fq15 := khv18 _ _ n_q15_y.symm fq15
  replace fq22 := khv18 _ _ n_q22_y.symm fq22
  replace fq36 := khv18 _ _ n_q36_y.symm fq36
  replace fq58 := khv18 _ _ n_q58_y.symm fq58
  replace fq67 := khv18 _ _ n_q67_y.symm fq67
  replace fq81 := khv18 _ _ n_q81_y.symm fq81
  replace fq90 := khv18 _ _ n_q90_y.symm fq90
  replace hle : qle (qdel h y) hv18 := fun b o hb => khv18 b o (qne_of oy hb) (hle b o hb)
  replace hY : hv18 y = some (.inr (8, [.ref q7, .ref q15, .ref q22, .int 0, .int 0, .int 0, .int 0, .ref q36, .ref q47, .int 0, .int 0, .ref q58, .ref q67, .int 1, .ref q81, .ref q90, .null, .null, .null, .null, .int 0, .null, .int 0])) := by rw [ehv18]; exact qs_self
  clear ehv18
  refine lv_aload_n hx hb dX8_init_95 rfl (lv_at hl 0 rfl) ?_
  refine lv_sipush (v := 1024) hx hb dX8_init_96 (by decide) ?_
  refine q_newaI (N := 1024) C g1237 hP hS (by decide) (by decide) (by decide) (by first | decide | omega) (by first | decide | omega) dX8_init_99 (fun q99 H eq99 hP hS => ?_)
  obtain ⟨hv19, ehv19⟩ : ∃ z : qH, z = qs hv18 q99 (.inl (cy 0, 1024, .inl (fun _ => 0))) := ⟨_, rfl⟩
  rw [← ehv19] at hP
  have khv19 : ∀ b o, b ≠ q99 → hv18 b = some o → hv19 b = some o := by rw [ehv19]; exact fun b o nb hb => (qs_ne nb).trans hb
  have n_q99_y : y ≠ q99 := qne_of eq99 hY
  replace hY := khv19 _ _ n_q99_y hY
  have n_q99_q7 : q7 ≠ q99 := qne_of eq99 fq7
  replace fq7 := khv19 _ _ n_q99_q7 fq7
  have n_q99_q15 : q15 ≠ q99 := qne_of eq99 fq15
  replace fq15 := khv19 _ _ n_q99_q15 fq15
  have n_q99_q22 : q22 ≠ q99 := qne_of eq99 fq22
  replace fq22 := khv19 _ _ n_q99_q22 fq22
  have n_q99_q36 : q36 ≠ q99 := qne_of eq99 fq36
  replace fq36 := khv19 _ _ n_q99_q36 fq36
  have n_q99_q58 : q58 ≠ q99 := qne_of eq99 fq58
  replace fq58 := khv19 _ _ n_q99_q58 fq58
  have n_q99_q67 : q67 ≠ q99 := qne_of eq99 fq67
  replace fq67 := khv19 _ _ n_q99_q67 fq67
  have n_q99_q81 : q81 ≠ q99 := qne_of eq99 fq81
  replace fq81 := khv19 _ _ n_q99_q81 fq81
  have n_q99_q90 : q90 ≠ q99 := qne_of eq99 fq90
  replace fq90 := khv19 _ _ n_q99_q90 fq90
  have oq99 := qle_none hle eq99
  replace hle : qle (qdel h y) hv19 := fun b o hb => khv19 b o (qne_of oq99 hb) (hle b o hb)
  have fq99 : hv19 q99 = some (.inl (cy 0, 1024, .inl (fun _ => 0))) := by rw [ehv19]; exact qs_self
  clear ehv19
  refine q_put C hP hS hY rfl inX8 tyX8 tyX8_ok nmX8 16 (by decide) g1183 rfl rfl rfl (Nat.le_of_ble_eq_true rfl) dX8_init_101 (fun H locs hP hS => ?_)
  replace hP : qP D N0 (qs hv19 y (.inr (8, [.ref q7, .ref q15, .ref q22, .int 0, .int 0, .int 0, .int 0, .ref q36, .ref q47, .int 0, .int 0, .ref q58, .ref q67, .int 1, .ref q81, .ref q90, .ref q99, .null, .null, .null, .int 0, .null, .int 0]))) H := hP
  obtain ⟨hv20, ehv20⟩ : ∃ z : qH, z = qs hv19 y (.inr (8, [.ref q7, .ref q15, .ref q22, .int 0, .int 0, .int 0, .int 0, .ref q36, .ref q47, .int 0, .int 0, .ref q58, .ref q67, .int 1, .ref q81, .ref q90, .ref q99, .null, .null, .null, .int 0, .null, .int 0])) := ⟨_, rfl⟩
  rw [← ehv20] at hP
  have khv20 : ∀ b o, b ≠ y → hv19 b = some o → hv20 b = some o := by rw [ehv20]; exact fun b o nb hb => (qs_ne nb).trans hb
  replace fq7 := khv20 _ _ n_q7_y.symm fq7
  replace fq15 := khv20 _ _ n_q15_y.symm fq15
  replace fq22 := khv20 _ _ n_q22_y.symm fq22
  replace fq36 := khv20 _ _ n_q36_y.symm fq36
  replace fq58 := khv20 _ _ n_q58_y.symm fq58
  replace fq67 := khv20 _ _ n_q67_y.symm fq67
  replace fq81 := khv20 _ _ n_q81_y.symm fq81
  replace fq90 := khv20 _ _ n_q90_y.symm fq90
  replace fq99 := khv20 _ _ n_q99_y.symm fq99
  replace hle : qle (qdel h y) hv20 := fun b o hb => khv20 b o (qne_of oy hb) (hle b o hb)
  replace hY : hv20 y = some (.inr (8, [.ref q7, .ref q15, .ref q22, .int 0, .int 0, .int 0, .int 0, .ref q36, .ref q47, .int 0, .int 0, .ref q58, .ref q67, .int 1, .ref q81, .ref q90, .ref q99, .null, .null, .null, .int 0, .null, .int 0])) := by rw [ehv20]; exact qs_self
  clear ehv20
  refine lv_aload_n hx hb dX8_init_104 rfl (lv_at hl 0 rfl) ?_
  refine lv_sipush (v := 1024) hx hb dX8_init_105 (by decide) ?_
  refine q_newaI (N := 1024) C g1237 hP hS (by decide) (by decide) (by decide) (by first | decide | omega) (by first | decide | omega) dX8_init_108 (fun q108 H eq108 hP hS => ?_)
  obtain ⟨hv21, ehv21⟩ : ∃ z : qH, z = qs hv20 q108 (.inl (cy 0, 1024, .inl (fun _ => 0))) := ⟨_, rfl⟩
  rw [← ehv21] at hP
  have khv21 : ∀ b o, b ≠ q108 → hv20 b = some o → hv21 b = some o := by rw [ehv21]; exact fun b o nb hb => (qs_ne nb).trans hb
  have n_q108_y : y ≠ q108 := qne_of eq108 hY
  replace hY := khv21 _ _ n_q108_y hY
  have n_q108_q7 : q7 ≠ q108 := qne_of eq108 fq7
  replace fq7 := khv21 _ _ n_q108_q7 fq7
  have n_q108_q15 : q15 ≠ q108 := qne_of eq108 fq15
  replace fq15 := khv21 _ _ n_q108_q15 fq15
  have n_q108_q22 : q22 ≠ q108 := qne_of eq108 fq22
  replace fq22 := khv21 _ _ n_q108_q22 fq22
  have n_q108_q36 : q36 ≠ q108 := qne_of eq108 fq36
  replace fq36 := khv21 _ _ n_q108_q36 fq36
  have n_q108_q58 : q58 ≠ q108 := qne_of eq108 fq58
  replace fq58 := khv21 _ _ n_q108_q58 fq58
  have n_q108_q67 : q67 ≠ q108 := qne_of eq108 fq67
  replace fq67 := khv21 _ _ n_q108_q67 fq67
  have n_q108_q81 : q81 ≠ q108 := qne_of eq108 fq81
  replace fq81 := khv21 _ _ n_q108_q81 fq81
  have n_q108_q90 : q90 ≠ q108 := qne_of eq108 fq90
  replace fq90 := khv21 _ _ n_q108_q90 fq90
  have n_q108_q99 : q99 ≠ q108 := qne_of eq108 fq99
  replace fq99 := khv21 _ _ n_q108_q99 fq99
  have oq108 := qle_none hle eq108
  replace hle : qle (qdel h y) hv21 := fun b o hb => khv21 b o (qne_of oq108 hb) (hle b o hb)
  have fq108 : hv21 q108 = some (.inl (cy 0, 1024, .inl (fun _ => 0))) := by rw [ehv21]; exact qs_self
  clear ehv21
  refine q_put C hP hS hY rfl inX8 tyX8 tyX8_ok nmX8 17 (by decide) g1184 rfl rfl rfl (Nat.le_of_ble_eq_true rfl) dX8_init_110 (fun H locs hP hS => ?_)
  replace hP : qP D N0 (qs hv21 y (.inr (8, [.ref q7, .ref q15, .ref q22, .int 0, .int 0, .int 0, .int 0, .ref q36, .ref q47, .int 0, .int 0, .ref q58, .ref q67, .int 1, .ref q81, .ref q90, .ref q99, .ref q108, .null, .null, .int 0, .null, .int 0]))) H := hP
  obtain ⟨hv22, ehv22⟩ : ∃ z : qH, z = qs hv21 y (.inr (8, [.ref q7, .ref q15, .ref q22, .int 0, .int 0, .int 0, .int 0, .ref q36, .ref q47, .int 0, .int 0, .ref q58, .ref q67, .int 1, .ref q81, .ref q90, .ref q99, .ref q108, .null, .null, .int 0, .null, .int 0])) := ⟨_, rfl⟩
  rw [← ehv22] at hP
  have khv22 : ∀ b o, b ≠ y → hv21 b = some o → hv22 b = some o := by rw [ehv22]; exact fun b o nb hb => (qs_ne nb).trans hb
  replace fq7 := khv22 _ _ n_q7_y.symm fq7
  replace fq15 := khv22 _ _ n_q15_y.symm fq15
  replace fq22 := khv22 _ _ n_q22_y.symm fq22
  replace fq36 := khv22 _ _ n_q36_y.symm fq36
  replace fq58 := khv22 _ _ n_q58_y.symm fq58
  replace fq67 := khv22 _ _ n_q67_y.symm fq67
  replace fq81 := khv22 _ _ n_q81_y.symm fq81
  replace fq90 := khv22 _ _ n_q90_y.symm fq90
  replace fq99 := khv22 _ _ n_q99_y.symm fq99
  replace fq108 := khv22 _ _ n_q108_y.symm fq108
  replace hle : qle (qdel h y) hv22 := fun b o hb => khv22 b o (qne_of oy hb) (hle b o hb)
  replace hY : hv22 y = some (.inr (8, [.ref q7, .ref q15, .ref q22, .int 0, .int 0, .int 0, .int 0, .ref q36, .ref q47, .int 0, .int 0, .ref q58, .ref q67, .int 1, .ref q81, .ref q90, .ref q99, .ref q108, .null, .null, .int 0, .null, .int 0])) := by rw [ehv22]; exact qs_self
  clear ehv22
  refine lv_aload_n hx hb dX8_init_113 rfl (lv_at hl 0 rfl) ?_
  refine lv_sipush (v := 1024) hx hb dX8_init_114 (by decide) ?_
  refine q_newaJ (N := 1024) C g67 hP hS (by decide) (by decide) (by decide) (by first | decide | omega) (by first | decide | omega) dX8_init_117 (fun q117 H eq117 hP hS => ?_)
  obtain ⟨hv23, ehv23⟩ : ∃ z : qH, z = qs hv22 q117 (.inl (cy 1, 1024, .inr (.inl (fun _ => 0)))) := ⟨_, rfl⟩
  rw [← ehv23] at hP
  have khv23 : ∀ b o, b ≠ q117 → hv22 b = some o → hv23 b = some o := by rw [ehv23]; exact fun b o nb hb => (qs_ne nb).trans hb
  have n_q117_y : y ≠ q117 := qne_of eq117 hY
  replace hY := khv23 _ _ n_q117_y hY
  have n_q117_q7 : q7 ≠ q117 := qne_of eq117 fq7
  replace fq7 := khv23 _ _ n_q117_q7 fq7
  have n_q117_q15 : q15 ≠ q117 := qne_of eq117 fq15
  replace fq15 := khv23 _ _ n_q117_q15 fq15
  have n_q117_q22 : q22 ≠ q117 := qne_of eq117 fq22
  replace fq22 := khv23 _ _ n_q117_q22 fq22
  have n_q117_q36 : q36 ≠ q117 := qne_of eq117 fq36
  replace fq36 := khv23 _ _ n_q117_q36 fq36
  have n_q117_q58 : q58 ≠ q117 := qne_of eq117 fq58
  replace fq58 := khv23 _ _ n_q117_q58 fq58
  have n_q117_q67 : q67 ≠ q117 := qne_of eq117 fq67
  replace fq67 := khv23 _ _ n_q117_q67 fq67
  have n_q117_q81 : q81 ≠ q117 := qne_of eq117 fq81
  replace fq81 := khv23 _ _ n_q117_q81 fq81
  have n_q117_q90 : q90 ≠ q117 := qne_of eq117 fq90
  replace fq90 := khv23 _ _ n_q117_q90 fq90
  have n_q117_q99 : q99 ≠ q117 := qne_of eq117 fq99
  replace fq99 := khv23 _ _ n_q117_q99 fq99
  have n_q117_q108 : q108 ≠ q117 := qne_of eq117 fq108
  replace fq108 := khv23 _ _ n_q117_q108 fq108
  have oq117 := qle_none hle eq117
  replace hle : qle (qdel h y) hv23 := fun b o hb => khv23 b o (qne_of oq117 hb) (hle b o hb)
  have fq117 : hv23 q117 = some (.inl (cy 1, 1024, .inr (.inl (fun _ => 0)))) := by rw [ehv23]; exact qs_self
  clear ehv23
  refine q_put C hP hS hY rfl inX8 tyX8 tyX8_ok nmX8 18 (by decide) g1185 rfl rfl rfl (Nat.le_of_ble_eq_true rfl) dX8_init_119 (fun H locs hP hS => ?_)
  replace hP : qP D N0 (qs hv23 y (.inr (8, [.ref q7, .ref q15, .ref q22, .int 0, .int 0, .int 0, .int 0, .ref q36, .ref q47, .int 0, .int 0, .ref q58, .ref q67, .int 1, .ref q81, .ref q90, .ref q99, .ref q108, .ref q117, .null, .int 0, .null, .int 0]))) H := hP
  obtain ⟨hv24, ehv24⟩ : ∃ z : qH, z = qs hv23 y (.inr (8, [.ref q7, .ref q15, .ref q22, .int 0, .int 0, .int 0, .int 0, .ref q36, .ref q47, .int 0, .int 0, .ref q58, .ref q67, .int 1, .ref q81, .ref q90, .ref q99, .ref q108, .ref q117, .null, .int 0, .null, .int 0])) := ⟨_, rfl⟩
  rw [← ehv24] at hP
  have khv24 : ∀ b o, b ≠ y → hv23 b = some o → hv24 b = some o := by rw [ehv24]; exact fun b o nb hb => (qs_ne nb).trans hb
  replace fq7 := khv24 _ _ n_q7_y.symm fq7
  replace fq15 := khv24 _ _ n_q15_y.symm fq15
  replace fq22 := khv24 _ _ n_q22_y.symm fq22
  replace fq36 := khv24 _ _ n_q36_y.symm fq36
  replace fq58 := khv24 _ _ n_q58_y.symm fq58
  replace fq67 := khv24 _ _ n_q67_y.symm fq67
  replace fq81 := khv24 _ _ n_q81_y.symm fq81
  replace fq90 := khv24 _ _ n_q90_y.symm fq90
  replace fq99 := khv24 _ _ n_q99_y.symm fq99
  replace fq108 := khv24 _ _ n_q108_y.symm fq108
  replace fq117 := khv24 _ _ n_q117_y.symm fq117
  replace hle : qle (qdel h y) hv24 := fun b o hb => khv24 b o (qne_of oy hb) (hle b o hb)
  replace hY : hv24 y = some (.inr (8, [.ref q7, .ref q15, .ref q22, .int 0, .int 0, .int 0, .int 0, .ref q36, .ref q47, .int 0, .int 0, .ref q58, .ref q67, .int 1, .ref q81, .ref q90, .ref q99, .ref q108, .ref q117, .null, .int 0, .null, .int 0])) := by rw [ehv24]; exact qs_self
  clear ehv24
  refine lv_aload_n hx hb dX8_init_122 rfl (lv_at hl 0 rfl) ?_
  refine lv_sipush (v := 1024) hx hb dX8_init_123 (by decide) ?_
  refine q_newaJ (N := 1024) C g67 hP hS (by decide) (by decide) (by decide) (by first | decide | omega) (by first | decide | omega) dX8_init_126 (fun q126 H eq126 hP hS => ?_)
  obtain ⟨hv25, ehv25⟩ : ∃ z : qH, z = qs hv24 q126 (.inl (cy 1, 1024, .inr (.inl (fun _ => 0)))) := ⟨_, rfl⟩
  rw [← ehv25] at hP
  have khv25 : ∀ b o, b ≠ q126 → hv24 b = some o → hv25 b = some o := by rw [ehv25]; exact fun b o nb hb => (qs_ne nb).trans hb
  have n_q126_y : y ≠ q126 := qne_of eq126 hY
  replace hY := khv25 _ _ n_q126_y hY
  have n_q126_q7 : q7 ≠ q126 := qne_of eq126 fq7
  replace fq7 := khv25 _ _ n_q126_q7 fq7
  have n_q126_q15 : q15 ≠ q126 := qne_of eq126 fq15
  replace fq15 := khv25 _ _ n_q126_q15 fq15
  have n_q126_q22 : q22 ≠ q126 := qne_of eq126 fq22
  replace fq22 := khv25 _ _ n_q126_q22 fq22
  have n_q126_q36 : q36 ≠ q126 := qne_of eq126 fq36
  replace fq36 := khv25 _ _ n_q126_q36 fq36
  have n_q126_q58 : q58 ≠ q126 := qne_of eq126 fq58
  replace fq58 := khv25 _ _ n_q126_q58 fq58
  have n_q126_q67 : q67 ≠ q126 := qne_of eq126 fq67
  replace fq67 := khv25 _ _ n_q126_q67 fq67
  have n_q126_q81 : q81 ≠ q126 := qne_of eq126 fq81
  replace fq81 := khv25 _ _ n_q126_q81 fq81
  have n_q126_q90 : q90 ≠ q126 := qne_of eq126 fq90
  replace fq90 := khv25 _ _ n_q126_q90 fq90
  have n_q126_q99 : q99 ≠ q126 := qne_of eq126 fq99
  replace fq99 := khv25 _ _ n_q126_q99 fq99
  have n_q126_q108 : q108 ≠ q126 := qne_of eq126 fq108
  replace fq108 := khv25 _ _ n_q126_q108 fq108
  have n_q126_q117 : q117 ≠ q126 := qne_of eq126 fq117
  replace fq117 := khv25 _ _ n_q126_q117 fq117
  have oq126 := qle_none hle eq126
  replace hle : qle (qdel h y) hv25 := fun b o hb => khv25 b o (qne_of oq126 hb) (hle b o hb)
  have fq126 : hv25 q126 = some (.inl (cy 1, 1024, .inr (.inl (fun _ => 0)))) := by rw [ehv25]; exact qs_self
  clear ehv25
  refine q_put C hP hS hY rfl inX8 tyX8 tyX8_ok nmX8 19 (by decide) g1186 rfl rfl rfl (Nat.le_of_ble_eq_true rfl) dX8_init_128 (fun H locs hP hS => ?_)
  replace hP : qP D N0 (qs hv25 y (.inr (8, [.ref q7, .ref q15, .ref q22, .int 0, .int 0, .int 0, .int 0, .ref q36, .ref q47, .int 0, .int 0, .ref q58, .ref q67, .int 1, .ref q81, .ref q90, .ref q99, .ref q108, .ref q117, .ref q126, .int 0, .null, .int 0]))) H := hP
  obtain ⟨hv26, ehv26⟩ : ∃ z : qH, z = qs hv25 y (.inr (8, [.ref q7, .ref q15, .ref q22, .int 0, .int 0, .int 0, .int 0, .ref q36, .ref q47, .int 0, .int 0, .ref q58, .ref q67, .int 1, .ref q81, .ref q90, .ref q99, .ref q108, .ref q117, .ref q126, .int 0, .null, .int 0])) := ⟨_, rfl⟩
  rw [← ehv26] at hP
  have khv26 : ∀ b o, b ≠ y → hv25 b = some o → hv26 b = some o := by rw [ehv26]; exact fun b o nb hb => (qs_ne nb).trans hb
  replace fq7 := khv26 _ _ n_q7_y.symm fq7
  replace fq15 := khv26 _ _ n_q15_y.symm fq15
  replace fq22 := khv26 _ _ n_q22_y.symm fq22
  replace fq36 := khv26 _ _ n_q36_y.symm fq36
  replace fq58 := khv26 _ _ n_q58_y.symm fq58
  replace fq67 := khv26 _ _ n_q67_y.symm fq67
  replace fq81 := khv26 _ _ n_q81_y.symm fq81
  replace fq90 := khv26 _ _ n_q90_y.symm fq90
  replace fq99 := khv26 _ _ n_q99_y.symm fq99
  replace fq108 := khv26 _ _ n_q108_y.symm fq108
  replace fq117 := khv26 _ _ n_q117_y.symm fq117
  replace fq126 := khv26 _ _ n_q126_y.symm fq126
  replace hle : qle (qdel h y) hv26 := fun b o hb => khv26 b o (qne_of oy hb) (hle b o hb)
  replace hY : hv26 y = some (.inr (8, [.ref q7, .ref q15, .ref q22, .int 0, .int 0, .int 0, .int 0, .ref q36, .ref q47, .int 0, .int 0, .ref q58, .ref q67, .int 1, .ref q81, .ref q90, .ref q99, .ref q108, .ref q117, .ref q126, .int 0, .null, .int 0])) := by rw [ehv26]; exact qs_self
  clear ehv26
  refine lv_aload_n hx hb dX8_init_131 rfl (lv_at hl 0 rfl) ?_
  refine lv_iconst (v := 1) hx hb dX8_init_132 (by decide) ?_
  refine q_put C hP hS hY rfl inX8 tyX8 tyX8_ok nmX8 20 (by decide) g1187 rfl rfl rfl (Nat.le_of_ble_eq_true rfl) dX8_init_133 (fun H locs hP hS => ?_)
  replace hP : qP D N0 (qs hv26 y (.inr (8, [.ref q7, .ref q15, .ref q22, .int 0, .int 0, .int 0, .int 0, .ref q36, .ref q47, .int 0, .int 0, .ref q58, .ref q67, .int 1, .ref q81, .ref q90, .ref q99, .ref q108, .ref q117, .ref q126, .int 1, .null, .int 0]))) H := hP
  obtain ⟨hv27, ehv27⟩ : ∃ z : qH, z = qs hv26 y (.inr (8, [.ref q7, .ref q15, .ref q22, .int 0, .int 0, .int 0, .int 0, .ref q36, .ref q47, .int 0, .int 0, .ref q58, .ref q67, .int 1, .ref q81, .ref q90, .ref q99, .ref q108, .ref q117, .ref q126, .int 1, .null, .int 0])) := ⟨_, rfl⟩
  rw [← ehv27] at hP
  have khv27 : ∀ b o, b ≠ y → hv26 b = some o → hv27 b = some o := by rw [ehv27]; exact fun b o nb hb => (qs_ne nb).trans hb
  replace fq7 := khv27 _ _ n_q7_y.symm fq7
  replace fq15 := khv27 _ _ n_q15_y.symm fq15
  replace fq22 := khv27 _ _ n_q22_y.symm fq22
  replace fq36 := khv27 _ _ n_q36_y.symm fq36
  replace fq58 := khv27 _ _ n_q58_y.symm fq58
  replace fq67 := khv27 _ _ n_q67_y.symm fq67
  replace fq81 := khv27 _ _ n_q81_y.symm fq81
  replace fq90 := khv27 _ _ n_q90_y.symm fq90
  replace fq99 := khv27 _ _ n_q99_y.symm fq99
  replace fq108 := khv27 _ _ n_q108_y.symm fq108
  replace fq117 := khv27 _ _ n_q117_y.symm fq117
  replace fq126 := khv27 _ _ n_q126_y.symm fq126
  replace hle : qle (qdel h y) hv27 := fun b o hb => khv27 b o (qne_of oy hb) (hle b o hb)
  replace hY : hv27 y = some (.inr (8, [.ref q7, .ref q15, .ref q22, .int 0, .int 0, .int 0, .int 0, .ref q36, .ref q47, .int 0, .int 0, .ref q58, .ref q67, .int 1, .ref q81, .ref q90, .ref q99, .ref q108, .ref q117, .ref q126, .int 1, .null, .int 0])) := by rw [ehv27]; exact qs_self
  clear ehv27
  refine lv_aload_n hx hb dX8_init_136 rfl (lv_at hl 0 rfl) ?_
  refine lv_sipush (v := 4100) hx hb dX8_init_137 (by decide) ?_
  refine q_newqA (t := .long) (t0 := 7) (N := 4100) C g1165 (by decide) rfl (fun _ z => z) hP hS (by decide) (by decide) (by decide) (by first | decide | omega) (by first | decide | omega) dX8_init_140 (fun q140 H eq140 hP hS => ?_)
  obtain ⟨hv28, ehv28⟩ : ∃ z : qH, z = qs hv27 q140 (.inl (cy 7, 4100, .inr (.inr (.inr (.inr (fun _ => none)))))) := ⟨_, rfl⟩
  rw [← ehv28] at hP
  have khv28 : ∀ b o, b ≠ q140 → hv27 b = some o → hv28 b = some o := by rw [ehv28]; exact fun b o nb hb => (qs_ne nb).trans hb
  have n_q140_y : y ≠ q140 := qne_of eq140 hY
  replace hY := khv28 _ _ n_q140_y hY
  have n_q140_q7 : q7 ≠ q140 := qne_of eq140 fq7
  replace fq7 := khv28 _ _ n_q140_q7 fq7
  have n_q140_q15 : q15 ≠ q140 := qne_of eq140 fq15
  replace fq15 := khv28 _ _ n_q140_q15 fq15
  have n_q140_q22 : q22 ≠ q140 := qne_of eq140 fq22
  replace fq22 := khv28 _ _ n_q140_q22 fq22
  have n_q140_q36 : q36 ≠ q140 := qne_of eq140 fq36
  replace fq36 := khv28 _ _ n_q140_q36 fq36
  have n_q140_q58 : q58 ≠ q140 := qne_of eq140 fq58
  replace fq58 := khv28 _ _ n_q140_q58 fq58
  have n_q140_q67 : q67 ≠ q140 := qne_of eq140 fq67
  replace fq67 := khv28 _ _ n_q140_q67 fq67
  have n_q140_q81 : q81 ≠ q140 := qne_of eq140 fq81
  replace fq81 := khv28 _ _ n_q140_q81 fq81
  have n_q140_q90 : q90 ≠ q140 := qne_of eq140 fq90
  replace fq90 := khv28 _ _ n_q140_q90 fq90
  have n_q140_q99 : q99 ≠ q140 := qne_of eq140 fq99
  replace fq99 := khv28 _ _ n_q140_q99 fq99
  have n_q140_q108 : q108 ≠ q140 := qne_of eq140 fq108
  replace fq108 := khv28 _ _ n_q140_q108 fq108
  have n_q140_q117 : q117 ≠ q140 := qne_of eq140 fq117
  replace fq117 := khv28 _ _ n_q140_q117 fq117
  have n_q140_q126 : q126 ≠ q140 := qne_of eq140 fq126
  replace fq126 := khv28 _ _ n_q140_q126 fq126
  have oq140 := qle_none hle eq140
  replace hle : qle (qdel h y) hv28 := fun b o hb => khv28 b o (qne_of oq140 hb) (hle b o hb)
  have fq140 : hv28 q140 = some (.inl (cy 7, 4100, .inr (.inr (.inr (.inr (fun _ => none)))))) := by rw [ehv28]; exact qs_self
  clear ehv28
  refine q_putF C hP hS hY rfl inX8 tyX8 tyX8_ok nmX8 21 (by decide) g1188 rfl rfl rfl rfl rfl (Nat.le_of_ble_eq_true rfl) dX8_init_143 (fun H locs hP hS => ?_)
  replace hP : qP D N0 (qs hv28 y (.inr (8, [.ref q7, .ref q15, .ref q22, .int 0, .int 0, .int 0, .int 0, .ref q36, .ref q47, .int 0, .int 0, .ref q58, .ref q67, .int 1, .ref q81, .ref q90, .ref q99, .ref q108, .ref q117, .ref q126, .int 1, .ref q140, .int 0]))) H := hP
  obtain ⟨hv29, ehv29⟩ : ∃ z : qH, z = qs hv28 y (.inr (8, [.ref q7, .ref q15, .ref q22, .int 0, .int 0, .int 0, .int 0, .ref q36, .ref q47, .int 0, .int 0, .ref q58, .ref q67, .int 1, .ref q81, .ref q90, .ref q99, .ref q108, .ref q117, .ref q126, .int 1, .ref q140, .int 0])) := ⟨_, rfl⟩
  rw [← ehv29] at hP
  have khv29 : ∀ b o, b ≠ y → hv28 b = some o → hv29 b = some o := by rw [ehv29]; exact fun b o nb hb => (qs_ne nb).trans hb
  replace fq7 := khv29 _ _ n_q7_y.symm fq7
  replace fq15 := khv29 _ _ n_q15_y.symm fq15
  replace fq22 := khv29 _ _ n_q22_y.symm fq22
  replace fq36 := khv29 _ _ n_q36_y.symm fq36
  replace fq58 := khv29 _ _ n_q58_y.symm fq58
  replace fq67 := khv29 _ _ n_q67_y.symm fq67
  replace fq81 := khv29 _ _ n_q81_y.symm fq81
  replace fq90 := khv29 _ _ n_q90_y.symm fq90
  replace fq99 := khv29 _ _ n_q99_y.symm fq99
  replace fq108 := khv29 _ _ n_q108_y.symm fq108
  replace fq117 := khv29 _ _ n_q117_y.symm fq117
  replace fq126 := khv29 _ _ n_q126_y.symm fq126
  replace fq140 := khv29 _ _ n_q140_y.symm fq140
  replace hle : qle (qdel h y) hv29 := fun b o hb => khv29 b o (qne_of oy hb) (hle b o hb)
  replace hY : hv29 y = some (.inr (8, [.ref q7, .ref q15, .ref q22, .int 0, .int 0, .int 0, .int 0, .ref q36, .ref q47, .int 0, .int 0, .ref q58, .ref q67, .int 1, .ref q81, .ref q90, .ref q99, .ref q108, .ref q117, .ref q126, .int 1, .ref q140, .int 0])) := by rw [ehv29]; exact qs_self
  clear ehv29
  refine lv_aload_n hx hb dX8_init_146 rfl (lv_at hl 0 rfl) ?_
  refine lv_iload_n hx hb dX8_init_147 rfl (lv_at hl 1 rfl) ?_
  refine lv_iconst (v := 3) hx hb dX8_init_148 (by decide) ?_
  refine lv_irem hx hb dX8_init_149 (by decide) ?_
  refine lv_iconst (v := 3) hx hb dX8_init_150 (by decide) ?_
  refine lv_iadd hx hb dX8_init_151 ?_
  refine lv_iconst (v := 3) hx hb dX8_init_152 (by decide) ?_
  refine lv_irem hx hb dX8_init_153 (by decide) ?_
  refine q_putF C hP hS hY rfl inX8 tyX8 tyX8_ok nmX8 3 (by decide) g1170 rfl rfl rfl rfl rfl (Nat.le_of_ble_eq_true rfl) dX8_init_154 (fun H locs hP hS => ?_)
  replace hP : qP D N0 (qs hv29 y (.inr (8, [.ref q7, .ref q15, .ref q22, .int (((p0 - p0 / 3 * 3) + 3) - ((p0 - p0 / 3 * 3) + 3) / 3 * 3), .int 0, .int 0, .int 0, .ref q36, .ref q47, .int 0, .int 0, .ref q58, .ref q67, .int 1, .ref q81, .ref q90, .ref q99, .ref q108, .ref q117, .ref q126, .int 1, .ref q140, .int 0]))) H := hP
  obtain ⟨hv30, ehv30⟩ : ∃ z : qH, z = qs hv29 y (.inr (8, [.ref q7, .ref q15, .ref q22, .int (((p0 - p0 / 3 * 3) + 3) - ((p0 - p0 / 3 * 3) + 3) / 3 * 3), .int 0, .int 0, .int 0, .ref q36, .ref q47, .int 0, .int 0, .ref q58, .ref q67, .int 1, .ref q81, .ref q90, .ref q99, .ref q108, .ref q117, .ref q126, .int 1, .ref q140, .int 0])) := ⟨_, rfl⟩
  rw [← ehv30] at hP
  have khv30 : ∀ b o, b ≠ y → hv29 b = some o → hv30 b = some o := by rw [ehv30]; exact fun b o nb hb => (qs_ne nb).trans hb
  replace fq7 := khv30 _ _ n_q7_y.symm fq7
  replace fq15 := khv30 _ _ n_q15_y.symm fq15
  replace fq22 := khv30 _ _ n_q22_y.symm fq22
  replace fq36 := khv30 _ _ n_q36_y.symm fq36
  replace fq58 := khv30 _ _ n_q58_y.symm fq58
  replace fq67 := khv30 _ _ n_q67_y.symm fq67
  replace fq81 := khv30 _ _ n_q81_y.symm fq81
  replace fq90 := khv30 _ _ n_q90_y.symm fq90
  replace fq99 := khv30 _ _ n_q99_y.symm fq99
  replace fq108 := khv30 _ _ n_q108_y.symm fq108
  replace fq117 := khv30 _ _ n_q117_y.symm fq117
  replace fq126 := khv30 _ _ n_q126_y.symm fq126
  replace fq140 := khv30 _ _ n_q140_y.symm fq140
  replace hle : qle (qdel h y) hv30 := fun b o hb => khv30 b o (qne_of oy hb) (hle b o hb)
  replace hY : hv30 y = some (.inr (8, [.ref q7, .ref q15, .ref q22, .int (((p0 - p0 / 3 * 3) + 3) - ((p0 - p0 / 3 * 3) + 3) / 3 * 3), .int 0, .int 0, .int 0, .ref q36, .ref q47, .int 0, .int 0, .ref q58, .ref q67, .int 1, .ref q81, .ref q90, .ref q99, .ref q108, .ref q117, .ref q126, .int 1, .ref q140, .int 0])) := by rw [ehv30]; exact qs_self
  clear ehv30
  refine lv_iconst (v := 0) hx hb dX8_init_157 (by decide) ?_
  refine lv_istore_n (lv' := [(2, .int 0), (0, .ref y), (1, .int p0)]) hx hb dX8_init_158 rfl hl (by decide) rfl (fun ls hl => ?_)
  generalize hv30 = hc at hP hY fq7 fq15 fq58 fq67 fq81 fq90 fq99 fq108 fq117 fq126 hle
  obtain ⟨f, eg⟩ : ∃ g : Nat → Option Nat, g = fun _ => none := ⟨_, rfl⟩
  rw [← eg] at fq7
  clear eg
  obtain ⟨j, ej⟩ : ∃ j : Nat, j = 0 := ⟨_, rfl⟩
  replace hl : lv_has ls 3 [(2, .int (nI j)), (0, .ref y), (1, .int p0)] := by rw [ej, nI_0]; exact hl
  obtain ⟨nj, hnj⟩ : ∃ n, j + n = 24 := ⟨24, by omega⟩
  have hIf : qRo hc f j := fun i hi => absurd hi (by omega)
  refine W.widen (k := 24 + 3 * j) (n := 23400 + 2009 * j) (by rw [ej]; decide) (by rw [ej]; decide) ?_
  clear ej
  clear n_q108_q22 n_q108_q36 n_q108_q58 n_q108_q90 n_q108_y n_q117_q108 n_q117_q22 n_q117_q36 n_q117_q67 n_q117_q81 n_q117_q90 n_q117_q99 n_q117_y n_q126_q108 n_q126_q22 n_q126_q36 n_q126_q67 n_q126_q81 n_q126_q90 n_q126_q99 n_q126_y n_q140_q108 n_q140_q117 n_q140_q126 n_q140_q22 n_q140_q36 n_q140_q58 n_q140_q67 n_q140_q81 n_q140_q90 n_q140_q99 n_q140_y n_q22_y n_q36_q22 n_q36_y n_q58_q22 n_q58_q36 n_q58_y n_q67_q22 n_q67_q36 n_q67_q58 n_q67_y n_q81_q22 n_q81_q36 n_q81_q58 n_q81_y n_q90_q22 n_q90_q36 n_q90_q58 n_q90_q67 n_q90_q81 n_q90_y n_q99_q22 n_q99_q36 n_q99_q58 n_q99_q90 n_q99_y
  induction nj generalizing j ls f hc H locs with
  | zero =>
    refine lv_iload_n hx hb dX8_init_159 rfl (lv_at hl 0 rfl) ?_
    refine lv_bipush (v := 24) hx hb dX8_init_160 (by decide) ?_
    refine lv_icmp_ge (tgt := 184) hx hb dX8_init_162 (by decide) (fun c162 => ?_) (fun c162 => ?_)
    · refine lv_iconst (v := 0) hx hb dX8_init_184 (by decide) ?_
      refine lv_istore_n (lv' := [(2, .int 0), (0, .ref y), (1, .int p0)]) hx hb dX8_init_185 rfl hl (by decide) rfl (fun ls hl => ?_)
      obtain ⟨g, eg⟩ : ∃ g : Nat → Option Nat, g = fun _ => none := ⟨_, rfl⟩
      rw [← eg] at fq15
      clear eg
      obtain ⟨i, ei⟩ : ∃ j : Nat, j = 0 := ⟨_, rfl⟩
      replace hl : lv_has ls 3 [(2, .int (nI i)), (0, .ref y), (1, .int p0)] := by rw [ei, nI_0]; exact hl
      obtain ⟨ni, hni⟩ : ∃ n, i + n = 4 := ⟨4, by omega⟩
      have hIg : qRo hc g i := fun i hi => absurd hi (by omega)
      refine W.widen (k := 96 + 3 * i) (n := 71616 + 2009 * i) (by omega) (by omega) ?_
      clear ei
      clear n_q108_q7 n_q117_q7 n_q126_q7 n_q140_q7 n_q22_q7 n_q36_q7 n_q58_q7 n_q67_q7 n_q7_y n_q81_q7 n_q90_q7 n_q99_q7
      induction ni generalizing i ls g hc H locs with
      | zero =>
        refine lv_iload_n hx hb dX8_init_186 rfl (lv_at hl 0 rfl) ?_
        refine lv_iconst (v := 4) hx hb dX8_init_187 (by decide) ?_
        refine lv_icmp_ge (tgt := 210) hx hb dX8_init_188 (by decide) (fun c188 => ?_) (fun c188 => ?_)
        · exact q_vret C hP hS ⟨rfl, q7, q15, q22, q36, q47, q58, q67, q81, q90, q99, q108, q117, q126, q140, _, f, g, hY, fq7, fq15, fun i9 h9 => hIf i9 (by omega), fun i9 h9 => hIg i9 (by omega), fq58, fq67, fq81, fq90, fq99, fq108, fq117, fq126, n_q99_q81, n_q108_q81, n_q81_q67, n_q108_q99, n_q99_q67, n_q108_q67, n_q126_q117, n_q117_q58, n_q126_q58, oq7, oq15, hle⟩ (by omega) dX8_init_210
        · exact absurd ((nI_leI (a := 4) (b := i) (by omega) (by omega)).mpr (by omega)) c188
      | succ ni ihi =>
        refine lv_iload_n hx hb dX8_init_186 rfl (lv_at hl 0 rfl) ?_
        refine lv_iconst (v := 4) hx hb dX8_init_187 (by decide) ?_
        refine lv_icmp_ge (tgt := 210) hx hb dX8_init_188 (by decide) (fun c188 => ?_) (fun c188 => ?_)
        · exact absurd ((nI_leI (a := 4) (b := i) (by omega) (by omega)).mp c188) (by omega)
        · refine lv_aload_n hx hb dX8_init_191 rfl (lv_at hl 1 rfl) ?_
          refine q_get C hP hY rfl inX8 1 (by decide) g1168 rfl dX8_init_192 ?_
          refine lv_iload_n hx hb dX8_init_195 rfl (lv_at hl 0 rfl) ?_
          refine q_new (ci := 7) (fs := [.null, .null, .int 0, .int 0, .int 0, .int 0, .int 0]) C hP hS rfl inX7 tyX7 tyX7_ok g1130 g1132 g5 (fun j hj => by rcases (show j = 0 ∨ j = 1 ∨ j = 2 ∨ j = 3 ∨ j = 4 ∨ j = 5 ∨ j = 6 by omega) with rfl | rfl | rfl | rfl | rfl | rfl | rfl <;> rfl) (by first | decide | omega) (by first | decide | omega) dX8_init_196 (fun q196 H eq196 hP hS => ?_)
          obtain ⟨hv31, ehv31⟩ : ∃ z : qH, z = qs hc q196 (.inr (7, [.null, .null, .int 0, .int 0, .int 0, .int 0, .int 0])) := ⟨_, rfl⟩
          rw [← ehv31] at hP
          have khv31 : ∀ b o, b ≠ q196 → hc b = some o → hv31 b = some o := by rw [ehv31]; exact fun b o nb hb => (qs_ne nb).trans hb
          have n_q196_y : y ≠ q196 := qne_of eq196 hY
          replace hY := khv31 _ _ n_q196_y hY
          have n_q196_q7 : q7 ≠ q196 := qne_of eq196 fq7
          replace fq7 := khv31 _ _ n_q196_q7 fq7
          have n_q196_q15 : q15 ≠ q196 := qne_of eq196 fq15
          replace fq15 := khv31 _ _ n_q196_q15 fq15
          have n_q196_q58 : q58 ≠ q196 := qne_of eq196 fq58
          replace fq58 := khv31 _ _ n_q196_q58 fq58
          have n_q196_q67 : q67 ≠ q196 := qne_of eq196 fq67
          replace fq67 := khv31 _ _ n_q196_q67 fq67
          have n_q196_q81 : q81 ≠ q196 := qne_of eq196 fq81
          replace fq81 := khv31 _ _ n_q196_q81 fq81
          have n_q196_q90 : q90 ≠ q196 := qne_of eq196 fq90
          replace fq90 := khv31 _ _ n_q196_q90 fq90
          have n_q196_q99 : q99 ≠ q196 := qne_of eq196 fq99
          replace fq99 := khv31 _ _ n_q196_q99 fq99
          have n_q196_q108 : q108 ≠ q196 := qne_of eq196 fq108
          replace fq108 := khv31 _ _ n_q196_q108 fq108
          have n_q196_q117 : q117 ≠ q196 := qne_of eq196 fq117
          replace fq117 := khv31 _ _ n_q196_q117 fq117
          have n_q196_q126 : q126 ≠ q196 := qne_of eq196 fq126
          replace fq126 := khv31 _ _ n_q196_q126 fq126
          have oq196 := qle_none hle eq196
          replace hle : qle (qdel h y) hv31 := fun b o hb => khv31 b o (qne_of oq196 hb) (hle b o hb)
          have fq196 : hv31 q196 = some (.inr (7, [.null, .null, .int 0, .int 0, .int 0, .int 0, .int 0])) := by rw [ehv31]; exact qs_self
          clear ehv31
          refine lv_dup hx hb dX8_init_199 rfl ?_
          refine q_callIN (host := RX8) (rest := [.ref q196, .int (nI i), .ref q15]) C (c_X7_init l D cy N0 (hv31) q196 fq196) kX7_init (by decide +kernel) g1134 rfl hP hS (by first | decide | omega) hl.1 rfl (by simp [q_catrf, q_cati, q_catl, q_cata, q_catn]) (by first | decide | omega) dX8_init_200 (fun v hh2 H locs hq hP hS => ?_)
          obtain ⟨rfl, kq196, uq196, -, -, -, -, -, zq196, -, -, hlhh2⟩ := hq
          replace hY := hlhh2 _ _ (qdel_at hY n_q196_y)
          replace fq7 := hlhh2 _ _ (qdel_at fq7 n_q196_q7)
          replace fq15 := hlhh2 _ _ (qdel_at fq15 n_q196_q15)
          replace fq58 := hlhh2 _ _ (qdel_at fq58 n_q196_q58)
          replace fq67 := hlhh2 _ _ (qdel_at fq67 n_q196_q67)
          replace fq81 := hlhh2 _ _ (qdel_at fq81 n_q196_q81)
          replace fq90 := hlhh2 _ _ (qdel_at fq90 n_q196_q90)
          replace fq99 := hlhh2 _ _ (qdel_at fq99 n_q196_q99)
          replace fq108 := hlhh2 _ _ (qdel_at fq108 n_q196_q108)
          replace fq117 := hlhh2 _ _ (qdel_at fq117 n_q196_q117)
          replace fq126 := hlhh2 _ _ (qdel_at fq126 n_q196_q126)
          replace fq196 := zq196
          replace hle := qle_del hle oq196 hlhh2
          replace hIf := hIf.keep (fun a9 f9 h9 => hlhh2 _ _ (qdel_at (khv31 _ _ (qne_of eq196 h9) h9) (qne_of eq196 h9)))
          replace hIg := hIg.keep (fun a9 f9 h9 => hlhh2 _ _ (qdel_at (khv31 _ _ (qne_of eq196 h9) h9) (qne_of eq196 h9)))
          have fq150 := fq15
          refine q_aastN (rc := (RX7, TX7, 7)) C rfl rfl hP hS fq15 fq196 (by omega) (by omega) dX8_init_203 (fun H locs hP hS => ?_)
          obtain ⟨hv32, ehv32⟩ : ∃ z : qH, z = qs hh2 q15 (.inl (cy 5, 4, .inr (.inr (.inr (.inr (va_up g i (some q196))))))) := ⟨_, rfl⟩
          rw [← ehv32] at hP
          have khv32 : ∀ b o, b ≠ q15 → hh2 b = some o → hv32 b = some o := by rw [ehv32]; exact fun b o nb hb => (qs_ne nb).trans hb
          replace hY := khv32 _ _ n_q15_y hY
          replace fq7 := khv32 _ _ n_q15_q7 fq7
          replace fq58 := khv32 _ _ n_q58_q15.symm fq58
          replace fq67 := khv32 _ _ n_q67_q15.symm fq67
          replace fq81 := khv32 _ _ n_q81_q15.symm fq81
          replace fq90 := khv32 _ _ n_q90_q15.symm fq90
          replace fq99 := khv32 _ _ n_q99_q15.symm fq99
          replace fq108 := khv32 _ _ n_q108_q15.symm fq108
          replace fq117 := khv32 _ _ n_q117_q15.symm fq117
          replace fq126 := khv32 _ _ n_q126_q15.symm fq126
          replace fq196 := khv32 _ _ n_q196_q15.symm fq196
          replace hle : qle (qdel h y) hv32 := fun b o hb => khv32 b o (qne_of oq15 hb) (hle b o hb)
          replace fq15 : hv32 q15 = some (.inl (cy 5, 4, .inr (.inr (.inr (.inr (va_up g i (some q196))))))) := by rw [ehv32]; exact qs_self
          clear ehv32
          refine lv_iinc (v := nI (i + 1)) (lv' := [(2, .int (nI (i + 1))), (0, .ref y), (1, .int p0)]) hx hb dX8_init_204 hl (k := 0) rfl (nI_1 i) (by decide) rfl (fun ls hl => ?_)
          refine lv_goto (tgt := 186) hx hb dX8_init_207 (by decide) ?_
          refine W.widen (k := 96 + 3 * (i + 1)) (n := 71616 + 2009 * (i + 1)) (by omega) (by omega) ?_
          have hk9 : ∀ a9 f9, hh2 a9 = some (.inr (7, f9)) → hv32 a9 = some (.inr (7, f9)) := fun a9 f9 h9 => khv32 _ _ (fun q => by subst q; have := h9.symm.trans fq150; cases this) h9
          refine ihi (ls := ls) (i := i + 1) (hP := hP) (hY := hY) (fq7 := fq7) (fq15 := fq15) (fq58 := fq58) (fq67 := fq67) (fq81 := fq81) (fq90 := fq90) (fq99 := fq99) (fq108 := fq108) (fq117 := fq117) (fq126 := fq126) (hle := hle) (hS := hS) (hl := lv_sub hl [0, 1, 2] rfl) (hni := by omega) (hIf := hIf.keep hk9) (hIg := ?_)
          intro i9 hi9
          rcases Nat.lt_succ_iff_lt_or_eq.mp hi9 with hi9 | rfl
          · obtain ⟨r1, k1, v1, n1, s1, d1, w1, z1, z2⟩ := hIg i9 hi9
            exact ⟨r1, k1, v1, n1, s1, d1, w1, (va_up_ne g _ (by omega)).trans z1, hk9 _ _ z2⟩
          · exact ⟨q196, kq196, uq196, 0, 0, 0, -1, va_up_self g _ _, fq196⟩
    · exact absurd ((nI_leI (a := 24) (b := j) (by omega) (by omega)).mpr (by omega)) c162
  | succ nj ihj =>
    refine lv_iload_n hx hb dX8_init_159 rfl (lv_at hl 0 rfl) ?_
    refine lv_bipush (v := 24) hx hb dX8_init_160 (by decide) ?_
    refine lv_icmp_ge (tgt := 184) hx hb dX8_init_162 (by decide) (fun c162 => ?_) (fun c162 => ?_)
    · exact absurd ((nI_leI (a := 24) (b := j) (by omega) (by omega)).mp c162) (by omega)
    · refine lv_aload_n hx hb dX8_init_165 rfl (lv_at hl 1 rfl) ?_
      refine q_get C hP hY rfl inX8 0 (by decide) g1167 rfl dX8_init_166 ?_
      refine lv_iload_n hx hb dX8_init_169 rfl (lv_at hl 0 rfl) ?_
      refine q_new (ci := 7) (fs := [.null, .null, .int 0, .int 0, .int 0, .int 0, .int 0]) C hP hS rfl inX7 tyX7 tyX7_ok g1130 g1132 g5 (fun j hj => by rcases (show j = 0 ∨ j = 1 ∨ j = 2 ∨ j = 3 ∨ j = 4 ∨ j = 5 ∨ j = 6 by omega) with rfl | rfl | rfl | rfl | rfl | rfl | rfl <;> rfl) (by first | decide | omega) (by first | decide | omega) dX8_init_170 (fun q170 H eq170 hP hS => ?_)
      obtain ⟨hv33, ehv33⟩ : ∃ z : qH, z = qs hc q170 (.inr (7, [.null, .null, .int 0, .int 0, .int 0, .int 0, .int 0])) := ⟨_, rfl⟩
      rw [← ehv33] at hP
      have khv33 : ∀ b o, b ≠ q170 → hc b = some o → hv33 b = some o := by rw [ehv33]; exact fun b o nb hb => (qs_ne nb).trans hb
      have n_q170_y : y ≠ q170 := qne_of eq170 hY
      replace hY := khv33 _ _ n_q170_y hY
      have n_q170_q7 : q7 ≠ q170 := qne_of eq170 fq7
      replace fq7 := khv33 _ _ n_q170_q7 fq7
      have n_q170_q15 : q15 ≠ q170 := qne_of eq170 fq15
      replace fq15 := khv33 _ _ n_q170_q15 fq15
      have n_q170_q58 : q58 ≠ q170 := qne_of eq170 fq58
      replace fq58 := khv33 _ _ n_q170_q58 fq58
      have n_q170_q67 : q67 ≠ q170 := qne_of eq170 fq67
      replace fq67 := khv33 _ _ n_q170_q67 fq67
      have n_q170_q81 : q81 ≠ q170 := qne_of eq170 fq81
      replace fq81 := khv33 _ _ n_q170_q81 fq81
      have n_q170_q90 : q90 ≠ q170 := qne_of eq170 fq90
      replace fq90 := khv33 _ _ n_q170_q90 fq90
      have n_q170_q99 : q99 ≠ q170 := qne_of eq170 fq99
      replace fq99 := khv33 _ _ n_q170_q99 fq99
      have n_q170_q108 : q108 ≠ q170 := qne_of eq170 fq108
      replace fq108 := khv33 _ _ n_q170_q108 fq108
      have n_q170_q117 : q117 ≠ q170 := qne_of eq170 fq117
      replace fq117 := khv33 _ _ n_q170_q117 fq117
      have n_q170_q126 : q126 ≠ q170 := qne_of eq170 fq126
      replace fq126 := khv33 _ _ n_q170_q126 fq126
      have oq170 := qle_none hle eq170
      replace hle : qle (qdel h y) hv33 := fun b o hb => khv33 b o (qne_of oq170 hb) (hle b o hb)
      have fq170 : hv33 q170 = some (.inr (7, [.null, .null, .int 0, .int 0, .int 0, .int 0, .int 0])) := by rw [ehv33]; exact qs_self
      clear ehv33
      refine lv_dup hx hb dX8_init_173 rfl ?_
      refine q_callIN (host := RX8) (rest := [.ref q170, .int (nI j), .ref q7]) C (c_X7_init l D cy N0 (hv33) q170 fq170) kX7_init (by decide +kernel) g1134 rfl hP hS (by first | decide | omega) hl.1 rfl (by simp [q_catrf, q_cati, q_catl, q_cata, q_catn]) (by first | decide | omega) dX8_init_174 (fun v hh3 H locs hq hP hS => ?_)
      obtain ⟨rfl, kq170, uq170, -, -, -, -, -, zq170, -, -, hlhh3⟩ := hq
      replace hY := hlhh3 _ _ (qdel_at hY n_q170_y)
      replace fq7 := hlhh3 _ _ (qdel_at fq7 n_q170_q7)
      replace fq15 := hlhh3 _ _ (qdel_at fq15 n_q170_q15)
      replace fq58 := hlhh3 _ _ (qdel_at fq58 n_q170_q58)
      replace fq67 := hlhh3 _ _ (qdel_at fq67 n_q170_q67)
      replace fq81 := hlhh3 _ _ (qdel_at fq81 n_q170_q81)
      replace fq90 := hlhh3 _ _ (qdel_at fq90 n_q170_q90)
      replace fq99 := hlhh3 _ _ (qdel_at fq99 n_q170_q99)
      replace fq108 := hlhh3 _ _ (qdel_at fq108 n_q170_q108)
      replace fq117 := hlhh3 _ _ (qdel_at fq117 n_q170_q117)
      replace fq126 := hlhh3 _ _ (qdel_at fq126 n_q170_q126)
      replace fq170 := zq170
      replace hle := qle_del hle oq170 hlhh3
      replace hIf := hIf.keep (fun a9 f9 h9 => hlhh3 _ _ (qdel_at (khv33 _ _ (qne_of eq170 h9) h9) (qne_of eq170 h9)))
      have fq70 := fq7
      refine q_aastN (rc := (RX7, TX7, 7)) C rfl rfl hP hS fq7 fq170 (by omega) (by omega) dX8_init_177 (fun H locs hP hS => ?_)
      obtain ⟨hv34, ehv34⟩ : ∃ z : qH, z = qs hh3 q7 (.inl (cy 5, 24, .inr (.inr (.inr (.inr (va_up f j (some q170))))))) := ⟨_, rfl⟩
      rw [← ehv34] at hP
      have khv34 : ∀ b o, b ≠ q7 → hh3 b = some o → hv34 b = some o := by rw [ehv34]; exact fun b o nb hb => (qs_ne nb).trans hb
      replace hY := khv34 _ _ n_q7_y hY
      replace fq15 := khv34 _ _ n_q15_q7.symm fq15
      replace fq58 := khv34 _ _ n_q58_q7.symm fq58
      replace fq67 := khv34 _ _ n_q67_q7.symm fq67
      replace fq81 := khv34 _ _ n_q81_q7.symm fq81
      replace fq90 := khv34 _ _ n_q90_q7.symm fq90
      replace fq99 := khv34 _ _ n_q99_q7.symm fq99
      replace fq108 := khv34 _ _ n_q108_q7.symm fq108
      replace fq117 := khv34 _ _ n_q117_q7.symm fq117
      replace fq126 := khv34 _ _ n_q126_q7.symm fq126
      replace fq170 := khv34 _ _ n_q170_q7.symm fq170
      replace hle : qle (qdel h y) hv34 := fun b o hb => khv34 b o (qne_of oq7 hb) (hle b o hb)
      replace fq7 : hv34 q7 = some (.inl (cy 5, 24, .inr (.inr (.inr (.inr (va_up f j (some q170))))))) := by rw [ehv34]; exact qs_self
      clear ehv34
      refine lv_iinc (v := nI (j + 1)) (lv' := [(2, .int (nI (j + 1))), (0, .ref y), (1, .int p0)]) hx hb dX8_init_178 hl (k := 0) rfl (nI_1 j) (by decide) rfl (fun ls hl => ?_)
      refine lv_goto (tgt := 159) hx hb dX8_init_181 (by decide) ?_
      refine W.widen (k := 24 + 3 * (j + 1)) (n := 23400 + 2009 * (j + 1)) (by omega) (by omega) ?_
      have hk9 : ∀ a9 f9, hh3 a9 = some (.inr (7, f9)) → hv34 a9 = some (.inr (7, f9)) := fun a9 f9 h9 => khv34 _ _ (fun q => by subst q; have := h9.symm.trans fq70; cases this) h9
      refine ihj (ls := ls) (j := j + 1) (hP := hP) (hY := hY) (fq7 := fq7) (fq15 := fq15) (fq58 := fq58) (fq67 := fq67) (fq81 := fq81) (fq90 := fq90) (fq99 := fq99) (fq108 := fq108) (fq117 := fq117) (fq126 := fq126) (hle := hle) (hS := hS) (hl := lv_sub hl [0, 1, 2] rfl) (hnj := by omega)  (hIf := ?_)
      intro i9 hi9
      rcases Nat.lt_succ_iff_lt_or_eq.mp hi9 with hi9 | rfl
      · obtain ⟨r1, k1, v1, n1, s1, d1, w1, z1, z2⟩ := hIf i9 hi9
        exact ⟨r1, k1, v1, n1, s1, d1, w1, (va_up_ne f _ (by omega)).trans z1, hk9 _ _ z2⟩
      · exact ⟨q170, kq170, uq170, 0, 0, 0, -1, va_up_self f _ _, fq170⟩
