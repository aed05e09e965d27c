/-- the heap but x -/
def qdel (h : qH) (x : Nat) : qH := fun a => if a = x then none else h a
theorem qdel_self {h : qH} {x : Nat} : qdel h x x = none := if_pos rfl
theorem qdel_le {h : qH} {x : Nat} : qle (qdel h x) h := fun a o e => by
  unfold qdel at e
  split at e
  · cases e
  · exact e
theorem qdel_at {h : qH} {x a : Nat} {o : va_E} (e : h a = some o) (n : a ≠ x) : qdel h x a = some o := (if_neg n).trans e

theorem dX6_init_0 : decode cX6_init 0 = .ok (.aload_n 0, 1) := by decide +kernel
theorem dX6_init_1 : decode cX6_init 1 = .ok (.invokespecial 3, 3) := by decide +kernel
theorem dX6_init_4 : decode cX6_init 4 = .ok (.aload_n 0, 1) := by decide +kernel
theorem dX6_init_5 : decode cX6_init 5 = .ok (.bipush 24, 2) := by decide +kernel
theorem dX6_init_7 : decode cX6_init 7 = .ok (.anewarray 9, 3) := by decide +kernel
theorem dX6_init_10 : decode cX6_init 10 = .ok (.putfield 11, 3) := by decide +kernel
theorem dX6_init_13 : decode cX6_init 13 = .ok (.aload_n 0, 1) := by decide +kernel
theorem dX6_init_14 : decode cX6_init 14 = .ok (.iconst 4, 1) := by decide +kernel
theorem dX6_init_15 : decode cX6_init 15 = .ok (.anewarray 15, 3) := by decide +kernel
theorem dX6_init_18 : decode cX6_init 18 = .ok (.putfield 17, 3) := by decide +kernel
theorem dX6_init_21 : decode cX6_init 21 = .ok (.aload_n 0, 1) := by decide +kernel
theorem dX6_init_22 : decode cX6_init 22 = .ok (.sipush 1000, 3) := by decide +kernel
theorem dX6_init_25 : decode cX6_init 25 = .ok (.newarray .long, 2) := by decide +kernel
theorem dX6_init_27 : decode cX6_init 27 = .ok (.putfield 21, 3) := by decide +kernel
theorem dX6_init_30 : decode cX6_init 30 = .ok (.aload_n 0, 1) := by decide +kernel
theorem dX6_init_31 : decode cX6_init 31 = .ok (.sipush 1000, 3) := by decide +kernel
theorem dX6_init_34 : decode cX6_init 34 = .ok (.newarray .long, 2) := by decide +kernel
theorem dX6_init_36 : decode cX6_init 36 = .ok (.putfield 25, 3) := by decide +kernel
theorem dX6_init_39 : decode cX6_init 39 = .ok (.iload_n 1, 1) := by decide +kernel
theorem dX6_init_40 : decode cX6_init 40 = .ok (.iconst 3, 1) := by decide +kernel
theorem dX6_init_41 : decode cX6_init 41 = .ok (.invokestatic 28, 3) := by decide +kernel
theorem dX6_init_44 : decode cX6_init 44 = .ok (.istore_n 2, 1) := by decide +kernel
theorem dX6_init_45 : decode cX6_init 45 = .ok (.aload_n 0, 1) := by decide +kernel
theorem dX6_init_46 : decode cX6_init 46 = .ok (.iload_n 2, 1) := by decide +kernel
theorem dX6_init_47 : decode cX6_init 47 = .ok (.ifCond .ne 7, 3) := by decide +kernel
theorem dX6_init_50 : decode cX6_init 50 = .ok (.iconst (-1), 1) := by decide +kernel
theorem dX6_init_51 : decode cX6_init 51 = .ok (.goto 15, 3) := by decide +kernel
theorem dX6_init_54 : decode cX6_init 54 = .ok (.iload_n 2, 1) := by decide +kernel
theorem dX6_init_55 : decode cX6_init 55 = .ok (.iconst 1, 1) := by decide +kernel
theorem dX6_init_56 : decode cX6_init 56 = .ok (.if_icmp .ne 9, 3) := by decide +kernel
theorem dX6_init_59 : decode cX6_init 59 = .ok (.sipush 255, 3) := by decide +kernel
theorem dX6_init_62 : decode cX6_init 62 = .ok (.goto 4, 3) := by decide +kernel
theorem dX6_init_65 : decode cX6_init 65 = .ok (.iconst 0, 1) := by decide +kernel
theorem dX6_init_66 : decode cX6_init 66 = .ok (.putfield 34, 3) := by decide +kernel
theorem dX6_init_69 : decode cX6_init 69 = .ok (.iconst 0, 1) := by decide +kernel
theorem dX6_init_70 : decode cX6_init 70 = .ok (.istore_n 3, 1) := by decide +kernel
theorem dX6_init_71 : decode cX6_init 71 = .ok (.iload_n 3, 1) := by decide +kernel
theorem dX6_init_72 : decode cX6_init 72 = .ok (.iconst 4, 1) := by decide +kernel
theorem dX6_init_73 : decode cX6_init 73 = .ok (.if_icmp .ge 22, 3) := by decide +kernel
theorem dX6_init_76 : decode cX6_init 76 = .ok (.aload_n 0, 1) := by decide +kernel
theorem dX6_init_77 : decode cX6_init 77 = .ok (.getfield 17, 3) := by decide +kernel
theorem dX6_init_80 : decode cX6_init 80 = .ok (.iload_n 3, 1) := by decide +kernel
theorem dX6_init_81 : decode cX6_init 81 = .ok (.new 15, 3) := by decide +kernel
theorem dX6_init_84 : decode cX6_init 84 = .ok (.dup, 1) := by decide +kernel
theorem dX6_init_85 : decode cX6_init 85 = .ok (.invokespecial 38, 3) := by decide +kernel
theorem dX6_init_88 : decode cX6_init 88 = .ok (.aastore, 1) := by decide +kernel
theorem dX6_init_89 : decode cX6_init 89 = .ok (.iinc 3 1, 3) := by decide +kernel
theorem dX6_init_92 : decode cX6_init 92 = .ok (.goto (-21), 3) := by decide +kernel
theorem dX6_init_95 : decode cX6_init 95 = .ok (.return_, 1) := by decide +kernel
set_option maxRecDepth 100000 in
set_option maxHeartbeats 4000000 in
theorem c_X6_init (l : Launch) (D : va_G) (cy : Nat → ClassId) (N0 : Nat) (h : qH) (x : Nat) (p0 : Int32) (hT : h x = some (.inr (6, [.int 0, .null, .null, .null, .null, .int 0, .int 0, .int 0]))) : qC l D cy N0 yX6_init cX6_init 4 none 3 60 12 6060 [.ref x, .int p0] h (fun v h' => v = none ∧ ∃ (sl bl kr vr : Nat) (g : Nat → Option Nat), h' x = some (.inr (6, [.int (if qfm p0 = 0 then -1 else if qfm p0 = 1 then 255 else 0), .ref sl, .ref bl, .ref kr, .ref vr, .int 0, .int 0, .int 0])) ∧ h' sl = some (.inl (cy 3, 24, .inr (.inr (.inr (.inr (fun _ => none)))))) ∧ h' bl = some (.inl (cy 2, 4, .inr (.inr (.inr (.inr g))))) ∧ h' kr = some (.inl (cy 1, 1000, .inr (.inl (fun _ => 0)))) ∧ h' vr = some (.inl (cy 1, 1000, .inr (.inl (fun _ => 0)))) ∧ kr ≠ vr ∧ (∀ i, i < 4 → ∃ b rw, g i = some b ∧ h' b = some (.inr (1, [.ref rw, .int 0, .int 0, .int 0, .null, .int 0])) ∧ h' rw = some (.inl (cy 1, 1000, .inr (.inl (fun _ => 0))))) ∧ qle (qdel h x) h') (fun E h' => False) := by
  refine q_ofW (by decide) (by exact Nat.le_of_ble_eq_true rfl) ?_
  intro p e s m below meth c ls C hP hl
  have hx := C.1
  have hb := C.2.1
  have hS : va_S (qA N0) s.heap s.heap [] := va_S.rf
  have hl : lv_has ls 4 [(0, .ref x), (1, .int p0)] := hl
  have hle : qle (qdel h x) h := qdel_le
  have ox : qdel h x x = none := qdel_self
  refine lv_aload_n hx hb dX6_init_0 rfl (lv_at hl 0 rfl) ?_
  refine q_obj C g27 g28 g29 hl.1 dX6_init_1 (by simp [q_catrf, q_cati, q_catl, q_cata, q_catn]) ?_
  refine lv_aload_n hx hb dX6_init_4 rfl (lv_at hl 0 rfl) ?_
  refine lv_bipush (v := 24) hx hb dX6_init_5 (by decide) ?_
  refine q_newq (t0 := 3) (N := 24) C g30 (by decide) rfl hP hS (by decide) (by decide) (by decide) (by first | decide | omega) (by first | decide | omega) dX6_init_7 (fun q7 H eq7 hP hS => ?_)
  have n_q7_x : x ≠ q7 := qne_of eq7 hT
  replace hT := qle_new (o := (.inl (cy 3, 24, .inr (.inr (.inr (.inr (fun _ => none))))))) eq7 _ _ hT
  have hb_q7 := hle
  have oq7 := qle_none hle eq7
  replace hle := qle_tr hle (qle_new (o := (.inl (cy 3, 24, .inr (.inr (.inr (.inr (fun _ => none))))))) eq7)
  have fq7 : (qs h q7 (.inl (cy 3, 24, .inr (.inr (.inr (.inr (fun _ => none))))))) q7 = some (.inl (cy 3, 24, .inr (.inr (.inr (.inr (fun _ => none)))))) := qs_self
  refine q_putF C hP hS hT rfl inX6 tyX6 tyX6_ok nmX6 1 (by decide) g69 rfl rfl rfl rfl rfl (Nat.le_of_ble_eq_true rfl) dX6_init_10 (fun H locs hP hS => ?_)
  have hb_x := hle
  replace fq7 := (qs_ne (h := (qs h q7 (.inl (cy 3, 24, .inr (.inr (.inr (.inr (fun _ => none)))))))) (a := x) (o := (.inr (6, [.int 0, .ref q7, .null, .null, .null, .int 0, .int 0, .int 0]))) n_q7_x.symm).trans fq7
  replace hle : qle (qdel h x) (qs (qs h q7 (.inl (cy 3, 24, .inr (.inr (.inr (.inr (fun _ => none))))))) x (.inr (6, [.int 0, .ref q7, .null, .null, .null, .int 0, .int 0, .int 0]))) := qle_set ox hb_x
  replace hT : (qs (qs h q7 (.inl (cy 3, 24, .inr (.inr (.inr (.inr (fun _ => none))))))) x (.inr (6, [.int 0, .ref q7, .null, .null, .null, .int 0, .int 0, .int 0]))) x = some (.inr (6, [.int 0, .ref q7, .null, .null, .null, .int 0, .int 0, .int 0])) := qs_self
  replace hP : qP D N0 (qs (qs h q7 (.inl (cy 3, 24, .inr (.inr (.inr (.inr (fun _ => none))))))) x (.inr (6, [.int 0, .ref q7, .null, .null, .null, .int 0, .int 0, .int 0]))) H := hP
  refine lv_aload_n hx hb dX6_init_13 rfl (lv_at hl 0 rfl) ?_
  refine lv_iconst (v := 4) hx hb dX6_init_14 (by decide) ?_
  refine q_newq (t0 := 2) (N := 4) C g32 (by decide) rfl hP hS (by decide) (by decide) (by decide) (by first | decide | omega) (by first | decide | omega) dX6_init_15 (fun q15 H eq15 hP hS => ?_)
  have n_q15_x : x ≠ q15 := qne_of eq15 hT
  replace hT := qle_new (o := (.inl (cy 2, 4, .inr (.inr (.inr (.inr (fun _ => none))))))) eq15 _ _ hT
  have n_q15_q7 : q7 ≠ q15 := qne_of eq15 fq7
  replace fq7 := qle_new (o := (.inl (cy 2, 4, .inr (.inr (.inr (.inr (fun _ => none))))))) eq15 _ _ fq7
  have hb_q15 := hle
  have oq15 := qle_none hle eq15
  replace hle := qle_tr hle (qle_new (o := (.inl (cy 2, 4, .inr (.inr (.inr (.inr (fun _ => none))))))) eq15)
  have fq15 : (qs (qs (qs h q7 (.inl (cy 3, 24, .inr (.inr (.inr (.inr (fun _ => none))))))) x (.inr (6, [.int 0, .ref q7, .null, .null, .null, .int 0, .int 0, .int 0]))) q15 (.inl (cy 2, 4, .inr (.inr (.inr (.inr (fun _ => none))))))) q15 = some (.inl (cy 2, 4, .inr (.inr (.inr (.inr (fun _ => none)))))) := qs_self
  refine q_putF C hP hS hT rfl inX6 tyX6 tyX6_ok nmX6 2 (by decide) g70 rfl rfl rfl rfl rfl (Nat.le_of_ble_eq_true rfl) dX6_init_18 (fun H locs hP hS => ?_)
  have hb_x := hle
  replace fq7 := (qs_ne (h := (qs (qs (qs h q7 (.inl (cy 3, 24, .inr (.inr (.inr (.inr (fun _ => none))))))) x (.inr (6, [.int 0, .ref q7, .null, .null, .null, .int 0, .int 0, .int 0]))) q15 (.inl (cy 2, 4, .inr (.inr (.inr (.inr (fun _ => none)))))))) (a := x) (o := (.inr (6, [.int 0, .ref q7, .ref q15, .null, .null, .int 0, .int 0, .int 0]))) n_q7_x.symm).trans fq7
  replace fq15 := (qs_ne (h := (qs (qs (qs h q7 (.inl (cy 3, 24, .inr (.inr (.inr (.inr (fun _ => none))))))) x (.inr (6, [.int 0, .ref q7, .null, .null, .null, .int 0, .int 0, .int 0]))) q15 (.inl (cy 2, 4, .inr (.inr (.inr (.inr (fun _ => none)))))))) (a := x) (o := (.inr (6, [.int 0, .ref q7, .ref q15, .null, .null, .int 0, .int 0, .int 0]))) n_q15_x.symm).trans fq15
  replace hle : qle (qdel h x) (qs (qs (qs (qs h q7 (.inl (cy 3, 24, .inr (.inr (.inr (.inr (fun _ => none))))))) x (.inr (6, [.int 0, .ref q7, .null, .null, .null, .int 0, .int 0, .int 0]))) q15 (.inl (cy 2, 4, .inr (.inr (.inr (.inr (fun _ => none))))))) x (.inr (6, [.int 0, .ref q7, .ref q15, .null, .null, .int 0, .int 0, .int 0]))) := qle_set ox hb_x
  replace hT : (qs (qs (qs (qs h q7 (.inl (cy 3, 24, .inr (.inr (.inr (.inr (fun _ => none))))))) x (.inr (6, [.int 0, .ref q7, .null, .null, .null, .int 0, .int 0, .int 0]))) q15 (.inl (cy 2, 4, .inr (.inr (.inr (.inr (fun _ => none))))))) x (.inr (6, [.int 0, .ref q7, .ref q15, .null, .null, .int 0, .int 0, .int 0]))) x = some (.inr (6, [.int 0, .ref q7, .ref q15, .null, .null, .int 0, .int 0, .int 0])) := qs_self
  replace hP : qP D N0 (qs (qs (qs (qs h q7 (.inl (cy 3, 24, .inr (.inr (.inr (.inr (fun _ => none))))))) x (.inr (6, [.int 0, .ref q7, .null, .null, .null, .int 0, .int 0, .int 0]))) q15 (.inl (cy 2, 4, .inr (.inr (.inr (.inr (fun _ => none))))))) x (.inr (6, [.int 0, .ref q7, .ref q15, .null, .null, .int 0, .int 0, .int 0]))) H := hP
  refine lv_aload_n hx hb dX6_init_21 rfl (lv_at hl 0 rfl) ?_
  refine lv_sipush (v := 1000) hx hb dX6_init_22 (by decide) ?_
  refine q_newaJ (N := 1000) C g67 hP hS (by decide) (by decide) (by decide) (by first | decide | omega) (by first | decide | omega) dX6_init_25 (fun q25 H eq25 hP hS => ?_)
  have n_q25_x : x ≠ q25 := qne_of eq25 hT
  replace hT := qle_new (o := (.inl (cy 1, 1000, .inr (.inl (fun _ => 0))))) eq25 _ _ hT
  have n_q25_q7 : q7 ≠ q25 := qne_of eq25 fq7
  replace fq7 := qle_new (o := (.inl (cy 1, 1000, .inr (.inl (fun _ => 0))))) eq25 _ _ fq7
  have n_q25_q15 : q15 ≠ q25 := qne_of eq25 fq15
  replace fq15 := qle_new (o := (.inl (cy 1, 1000, .inr (.inl (fun _ => 0))))) eq25 _ _ fq15
  have hb_q25 := hle
  have oq25 := qle_none hle eq25
  replace hle := qle_tr hle (qle_new (o := (.inl (cy 1, 1000, .inr (.inl (fun _ => 0))))) eq25)
  have fq25 : (qs (qs (qs (qs (qs h q7 (.inl (cy 3, 24, .inr (.inr (.inr (.inr (fun _ => none))))))) x (.inr (6, [.int 0, .ref q7, .null, .null, .null, .int 0, .int 0, .int 0]))) q15 (.inl (cy 2, 4, .inr (.inr (.inr (.inr (fun _ => none))))))) x (.inr (6, [.int 0, .ref q7, .ref q15, .null, .null, .int 0, .int 0, .int 0]))) q25 (.inl (cy 1, 1000, .inr (.inl (fun _ => 0))))) q25 = some (.inl (cy 1, 1000, .inr (.inl (fun _ => 0)))) := qs_self
  refine q_putF C hP hS hT rfl inX6 tyX6 tyX6_ok nmX6 3 (by decide) g71 rfl rfl rfl rfl rfl (Nat.le_of_ble_eq_true rfl) dX6_init_27 (fun H locs hP hS => ?_)
  have hb_x := hle
  replace fq7 := (qs_ne (h := (qs (qs (qs (qs (qs h q7 (.inl (cy 3, 24, .inr (.inr (.inr (.inr (fun _ => none))))))) x (.inr (6, [.int 0, .ref q7, .null, .null, .null, .int 0, .int 0, .int 0]))) q15 (.inl (cy 2, 4, .inr (.inr (.inr (.inr (fun _ => none))))))) x (.inr (6, [.int 0, .ref q7, .ref q15, .null, .null, .int 0, .int 0, .int 0]))) q25 (.inl (cy 1, 1000, .inr (.inl (fun _ => 0)))))) (a := x) (o := (.inr (6, [.int 0, .ref q7, .ref q15, .ref q25, .null, .int 0, .int 0, .int 0]))) n_q7_x.symm).trans fq7
  replace fq15 := (qs_ne (h := (qs (qs (qs (qs (qs h q7 (.inl (cy 3, 24, .inr (.inr (.inr (.inr (fun _ => none))))))) x (.inr (6, [.int 0, .ref q7, .null, .null, .null, .int 0, .int 0, .int 0]))) q15 (.inl (cy 2, 4, .inr (.inr (.inr (.inr (fun _ => none))))))) x (.inr (6, [.int 0, .ref q7, .ref q15, .null, .null, .int 0, .int 0, .int 0]))) q25 (.inl (cy 1, 1000, .inr (.inl (fun _ => 0)))))) (a := x) (o := (.inr (6, [.int 0, .ref q7, .ref q15, .ref q25, .null, .int 0, .int 0, .int 0]))) n_q15_x.symm).trans fq15
  replace fq25 := (qs_ne (h := (qs (qs (qs (qs (qs h q7 (.inl (cy 3, 24, .inr (.inr (.inr (.inr (fun _ => none))))))) x (.inr (6, [.int 0, .ref q7, .null, .null, .null, .int 0, .int 0, .int 0]))) q15 (.inl (cy 2, 4, .inr (.inr (.inr (.inr (fun _ => none))))))) x (.inr (6, [.int 0, .ref q7, .ref q15, .null, .null, .int 0, .int 0, .int 0]))) q25 (.inl (cy 1, 1000, .inr (.inl (fun _ => 0)))))) (a := x) (o := (.inr (6, [.int 0, .ref q7, .ref q15, .ref q25, .null, .int 0, .int 0, .int 0]))) n_q25_x.symm).trans fq25
  replace hle : qle (qdel h x) (qs (qs (qs (qs (qs (qs h q7 (.inl (cy 3, 24, .inr (.inr (.inr (.inr (fun _ => none))))))) x (.inr (6, [.int 0, .ref q7, .null, .null, .null, .int 0, .int 0, .int 0]))) q15 (.inl (cy 2, 4, .inr (.inr (.inr (.inr (fun _ => none))))))) x (.inr (6, [.int 0, .ref q7, .ref q15, .null, .null, .int 0, .int 0, .int 0]))) q25 (.inl (cy 1, 1000, .inr (.inl (fun _ => 0))))) x (.inr (6, [.int 0, .ref q7, .ref q15, .ref q25, .null, .int 0, .int 0, .int 0]))) := qle_set ox hb_x
  replace hT : (qs (qs (qs (qs (qs (qs h q7 (.inl (cy 3, 24, .inr (.inr (.inr (.inr (fun _ => none))))))) x (.inr (6, [.int 0, .ref q7, .null, .null, .null, .int 0, .int 0, .int 0]))) q15 (.inl (cy 2, 4, .inr (.inr (.inr (.inr (fun _ => none))))))) x (.inr (6, [.int 0, .ref q7, .ref q15, .null, .null, .int 0, .int 0, .int 0]))) q25 (.inl (cy 1, 1000, .inr (.inl (fun _ => 0))))) x (.inr (6, [.int 0, .ref q7, .ref q15, .ref q25, .null, .int 0, .int 0, .int 0]))) x = some (.inr (6, [.int 0, .ref q7, .ref q15, .ref q25, .null, .int 0, .int 0, .int 0])) := qs_self
  replace hP : qP D N0 (qs (qs (qs (qs (qs (qs h q7 (.inl (cy 3, 24, .inr (.inr (.inr (.inr (fun _ => none))))))) x (.inr (6, [.int 0, .ref q7, .null, .null, .null, .int 0, .int 0, .int 0]))) q15 (.inl (cy 2, 4, .inr (.inr (.inr (.inr (fun _ => none))))))) x (.inr (6, [.int 0, .ref q7, .ref q15, .null, .null, .int 0, .int 0, .int 0]))) q25 (.inl (cy 1, 1000, .inr (.inl (fun _ => 0))))) x (.inr (6, [.int 0, .ref q7, .ref q15, .ref q25, .null, .int 0, .int 0, .int 0]))) H := hP
  refine lv_aload_n hx hb dX6_init_30 rfl (lv_at hl 0 rfl) ?_
  refine lv_sipush (v := 1000) hx hb dX6_init_31 (by decide) ?_
  refine q_newaJ (N := 1000) C g67 hP hS (by decide) (by decide) (by decide) (by first | decide | omega) (by first | decide | omega) dX6_init_34 (fun q34 H eq34 hP hS => ?_)
  have n_q34_x : x ≠ q34 := qne_of eq34 hT
  replace hT := qle_new (o := (.inl (cy 1, 1000, .inr (.inl (fun _ => 0))))) eq34 _ _ hT
  have n_q34_q7 : q7 ≠ q34 := qne_of eq34 fq7
  replace fq7 := qle_new (o := (.inl (cy 1, 1000, .inr (.inl (fun _ => 0))))) eq34 _ _ fq7
  have n_q34_q15 : q15 ≠ q34 := qne_of eq34 fq15
  replace fq15 := qle_new (o := (.inl (cy 1, 1000, .inr (.inl (fun _ => 0))))) eq34 _ _ fq15
  have n_q34_q25 : q25 ≠ q34 := qne_of eq34 fq25
  replace fq25 := qle_new (o := (.inl (cy 1, 1000, .inr (.inl (fun _ => 0))))) eq34 _ _ fq25
  have hb_q34 := hle
  have oq34 := qle_none hle eq34
  replace hle := qle_tr hle (qle_new (o := (.inl (cy 1, 1000, .inr (.inl (fun _ => 0))))) eq34)
  have fq34 : (qs (qs (qs (qs (qs (qs (qs h q7 (.inl (cy 3, 24, .inr (.inr (.inr (.inr (fun _ => none))))))) x (.inr (6, [.int 0, .ref q7, .null, .null, .null, .int 0, .int 0, .int 0]))) q15 (.inl (cy 2, 4, .inr (.inr (.inr (.inr (fun _ => none))))))) x (.inr (6, [.int 0, .ref q7, .ref q15, .null, .null, .int 0, .int 0, .int 0]))) q25 (.inl (cy 1, 1000, .inr (.inl (fun _ => 0))))) x (.inr (6, [.int 0, .ref q7, .ref q15, .ref q25, .null, .int 0, .int 0, .int 0]))) q34 (.inl (cy 1, 1000, .inr (.inl (fun _ => 0))))) q34 = some (.inl (cy 1, 1000, .inr (.inl (fun _ => 0)))) := qs_self
  refine q_putF C hP hS hT rfl inX6 tyX6 tyX6_ok nmX6 4 (by decide) g72 rfl rfl rfl rfl rfl (Nat.le_of_ble_eq_true rfl) dX6_init_36 (fun H locs hP hS => ?_)
  have hb_x := hle
  replace fq7 := (qs_ne (h := (qs (qs (qs (qs (qs (qs (qs h q7 (.inl (cy 3, 24, .inr (.inr (.inr (.inr (fun _ => none))))))) x (.inr (6, [.int 0, .ref q7, .null, .null, .null, .int 0, .int 0, .int 0]))) q15 (.inl (cy 2, 4, .inr (.inr (.inr (.inr (fun _ => none))))))) x (.inr (6, [.int 0, .ref q7, .ref q15, .null, .null, .int 0, .int 0, .int 0]))) q25 (.inl (cy 1, 1000, .inr (.inl (fun _ => 0))))) x (.inr (6, [.int 0, .ref q7, .ref q15, .ref q25, .null, .int 0, .int 0, .int 0]))) q34 (.inl (cy 1, 1000, .inr (.inl (fun _ => 0)))))) (a := x) (o := (.inr (6, [.int 0, .ref q7, .ref q15, .ref q25, .ref q34, .int 0, .int 0, .int 0]))) n_q7_x.symm).trans fq7
  replace fq15 := (qs_ne (h := (qs (qs (qs (qs (qs (qs (qs h q7 (.inl (cy 3, 24, .inr (.inr (.inr (.inr (fun _ => none))))))) x (.inr (6, [.int 0, .ref q7, .null, .null, .null, .int 0, .int 0, .int 0]))) q15 (.inl (cy 2, 4, .inr (.inr (.inr (.inr (fun _ => none))))))) x (.inr (6, [.int 0, .ref q7, .ref q15, .null, .null, .int 0, .int 0, .int 0]))) q25 (.inl (cy 1, 1000, .inr (.inl (fun _ => 0))))) x (.inr (6, [.int 0, .ref q7, .ref q15, .ref q25, .null, .int 0, .int 0, .int 0]))) q34 (.inl (cy 1, 1000, .inr (.inl (fun _ => 0)))))) (a := x) (o := (.inr (6, [.int 0, .ref q7, .ref q15, .ref q25, .ref q34, .int 0, .int 0, .int 0]))) n_q15_x.symm).trans fq15
  replace fq25 := (qs_ne (h := (qs (qs (qs (qs (qs (qs (qs h q7 (.inl (cy 3, 24, .inr (.inr (.inr (.inr (fun _ => none))))))) x (.inr (6, [.int 0, .ref q7, .null, .null, .null, .int 0, .int 0, .int 0]))) q15 (.inl (cy 2, 4, .inr (.inr (.inr (.inr (fun _ => none))))))) x (.inr (6, [.int 0, .ref q7, .ref q15, .null, .null, .int 0, .int 0, .int 0]))) q25 (.inl (cy 1, 1000, .inr (.inl (fun _ => 0))))) x (.inr (6, [.int 0, .ref q7, .ref q15, .ref q25, .null, .int 0, .int 0, .int 0]))) q34 (.inl (cy 1, 1000, .inr (.inl (fun _ => 0)))))) (a := x) (o := (.inr (6, [.int 0, .ref q7, .ref q15, .ref q25, .ref q34, .int 0, .int 0, .int 0]))) n_q25_x.symm).trans fq25
  replace fq34 := (qs_ne (h := (qs (qs (qs (qs (qs (qs (qs h q7 (.inl (cy 3, 24, .inr (.inr (.inr (.inr (fun _ => none))))))) x (.inr (6, [.int 0, .ref q7, .null, .null, .null, .int 0, .int 0, .int 0]))) q15 (.inl (cy 2, 4, .inr (.inr (.inr (.inr (fun _ => none))))))) x (.inr (6, [.int 0, .ref q7, .ref q15, .null, .null, .int 0, .int 0, .int 0]))) q25 (.inl (cy 1, 1000, .inr (.inl (fun _ => 0))))) x (.inr (6, [.int 0, .ref q7, .ref q15, .ref q25, .null, .int 0, .int 0, .int 0]))) q34 (.inl (cy 1, 1000, .inr (.inl (fun _ => 0)))))) (a := x) (o := (.inr (6, [.int 0, .ref q7, .ref q15, .ref q25, .ref q34, .int 0, .int 0, .int 0]))) n_q34_x.symm).trans fq34
  replace hle : qle (qdel h x) (qs (qs (qs (qs (qs (qs (qs (qs h q7 (.inl (cy 3, 24, .inr (.inr (.inr (.inr (fun _ => none))))))) x (.inr (6, [.int 0, .ref q7, .null, .null, .null, .int 0, .int 0, .int 0]))) q15 (.inl (cy 2, 4, .inr (.inr (.inr (.inr (fun _ => none))))))) x (.inr (6, [.int 0, .ref q7, .ref q15, .null, .null, .int 0, .int 0, .int 0]))) q25 (.inl (cy 1, 1000, .inr (.inl (fun _ => 0))))) x (.inr (6, [.int 0, .ref q7, .ref q15, .ref q25, .null, .int 0, .int 0, .int 0]))) q34 (.inl (cy 1, 1000, .inr (.inl (fun _ => 0))))) x (.inr (6, [.int 0, .ref q7, .ref q15, .ref q25, .ref q34, .int 0, .int 0, .int 0]))) := qle_set ox hb_x
  replace hT : (qs (qs (qs (qs (qs (qs (qs (qs h q7 (.inl (cy 3, 24, .inr (.inr (.inr (.inr (fun _ => none))))))) x (.inr (6, [.int 0, .ref q7, .null, .null, .null, .int 0, .int 0, .int 0]))) q15 (.inl (cy 2, 4, .inr (.inr (.inr (.inr (fun _ => none))))))) x (.inr (6, [.int 0, .ref q7, .ref q15, .null, .null, .int 0, .int 0, .int 0]))) q25 (.inl (cy 1, 1000, .inr (.inl (fun _ => 0))))) x (.inr (6, [.int 0, .ref q7, .ref q15, .ref q25, .null, .int 0, .int 0, .int 0]))) q34 (.inl (cy 1, 1000, .inr (.inl (fun _ => 0))))) x (.inr (6, [.int 0, .ref q7, .ref q15, .ref q25, .ref q34, .int 0, .int 0, .int 0]))) x = some (.inr (6, [.int 0, .ref q7, .ref q15, .ref q25, .ref q34, .int 0, .int 0, .int 0])) := qs_self
  replace hP : qP D N0 (qs (qs (qs (qs (qs (qs (qs (qs h q7 (.inl (cy 3, 24, .inr (.inr (.inr (.inr (fun _ => none))))))) x (.inr (6, [.int 0, .ref q7, .null, .null, .null, .int 0, .int 0, .int 0]))) q15 (.inl (cy 2, 4, .inr (.inr (.inr (.inr (fun _ => none))))))) x (.inr (6, [.int 0, .ref q7, .ref q15, .null, .null, .int 0, .int 0, .int 0]))) q25 (.inl (cy 1, 1000, .inr (.inl (fun _ => 0))))) x (.inr (6, [.int 0, .ref q7, .ref q15, .ref q25, .null, .int 0, .int 0, .int 0]))) q34 (.inl (cy 1, 1000, .inr (.inl (fun _ => 0))))) x (.inr (6, [.int 0, .ref q7, .ref q15, .ref q25, .ref q34, .int 0, .int 0, .int 0]))) H := hP
  refine lv_iload_n hx hb dX6_init_39 rfl (lv_at hl 1 rfl) ?_
  refine lv_iconst (v := 3) hx hb dX6_init_40 (by decide) ?_
  refine q_callS (rest := []) C (c_J9_floorMod l D cy N0 (qs (qs (qs (qs (qs (qs (qs (qs h q7 (.inl (cy 3, 24, .inr (.inr (.inr (.inr (fun _ => none))))))) x (.inr (6, [.int 0, .ref q7, .null, .null, .null, .int 0, .int 0, .int 0]))) q15 (.inl (cy 2, 4, .inr (.inr (.inr (.inr (fun _ => none))))))) x (.inr (6, [.int 0, .ref q7, .ref q15, .null, .null, .int 0, .int 0, .int 0]))) q25 (.inl (cy 1, 1000, .inr (.inl (fun _ => 0))))) x (.inr (6, [.int 0, .ref q7, .ref q15, .ref q25, .null, .int 0, .int 0, .int 0]))) q34 (.inl (cy 1, 1000, .inr (.inl (fun _ => 0))))) x (.inr (6, [.int 0, .ref q7, .ref q15, .ref q25, .ref q34, .int 0, .int 0, .int 0]))) p0) kJ9_floorMod_7cf53 g34 g35 hP hS (by first | decide | omega) hl.1 rfl (by decide) (by first | decide | omega) dX6_init_41 (fun q ce E h' H1 locs1 hE => hE.elim) (fun v hh1 H locs hq hP hS => ?_)
  obtain ⟨rfl, rfl⟩ := hq
  refine lv_istore_n (lv' := [(2, .int (qfm p0)), (0, .ref x), (1, .int p0)]) hx hb dX6_init_44 rfl hl (by decide) rfl (fun ls hl => ?_)
  refine lv_aload_n hx hb dX6_init_45 rfl (lv_at hl 1 rfl) ?_
  refine lv_iload_n hx hb dX6_init_46 rfl (lv_at hl 0 rfl) ?_
  refine lv_if_ne (tgt := 54) hx hb dX6_init_47 (by decide) (fun c47 => ?_) (fun c47 => ?_)
  · refine lv_iload_n hx hb dX6_init_54 rfl (lv_at hl 0 rfl) ?_
    refine lv_iconst (v := 1) hx hb dX6_init_55 (by decide) ?_
    refine lv_icmp_ne (tgt := 65) hx hb dX6_init_56 (by decide) (fun c56 => ?_) (fun c56 => ?_)
    · refine lv_iconst (v := 0) hx hb dX6_init_65 (by decide) ?_
      refine q_putF C hP hS hT rfl inX6 tyX6 tyX6_ok nmX6 0 (by decide) g68 rfl rfl rfl rfl rfl (Nat.le_of_ble_eq_true rfl) dX6_init_66 (fun H locs hP hS => ?_)
      rw [qs_qs] at hP
      replace fq7 := qs_re (o' := (.inr (6, [.int 0, .ref q7, .ref q15, .ref q25, .ref q34, .int 0, .int 0, .int 0]))) n_q7_x.symm fq7
      replace fq15 := qs_re (o' := (.inr (6, [.int 0, .ref q7, .ref q15, .ref q25, .ref q34, .int 0, .int 0, .int 0]))) n_q15_x.symm fq15
      replace fq25 := qs_re (o' := (.inr (6, [.int 0, .ref q7, .ref q15, .ref q25, .ref q34, .int 0, .int 0, .int 0]))) n_q25_x.symm fq25
      replace fq34 := qs_re (o' := (.inr (6, [.int 0, .ref q7, .ref q15, .ref q25, .ref q34, .int 0, .int 0, .int 0]))) n_q34_x.symm fq34
      replace hle : qle (qdel h x) (qs (qs (qs (qs (qs (qs (qs (qs h q7 (.inl (cy 3, 24, .inr (.inr (.inr (.inr (fun _ => none))))))) x (.inr (6, [.int 0, .ref q7, .null, .null, .null, .int 0, .int 0, .int 0]))) q15 (.inl (cy 2, 4, .inr (.inr (.inr (.inr (fun _ => none))))))) x (.inr (6, [.int 0, .ref q7, .ref q15, .null, .null, .int 0, .int 0, .int 0]))) q25 (.inl (cy 1, 1000, .inr (.inl (fun _ => 0))))) x (.inr (6, [.int 0, .ref q7, .ref q15, .ref q25, .null, .int 0, .int 0, .int 0]))) q34 (.inl (cy 1, 1000, .inr (.inl (fun _ => 0))))) x (.inr (6, [.int 0, .ref q7, .ref q15, .ref q25, .ref q34, .int 0, .int 0, .int 0]))) := qle_set ox hb_x
      replace hT : (qs (qs (qs (qs (qs (qs (qs (qs h q7 (.inl (cy 3, 24, .inr (.inr (.inr (.inr (fun _ => none))))))) x (.inr (6, [.int 0, .ref q7, .null, .null, .null, .int 0, .int 0, .int 0]))) q15 (.inl (cy 2, 4, .inr (.inr (.inr (.inr (fun _ => none))))))) x (.inr (6, [.int 0, .ref q7, .ref q15, .null, .null, .int 0, .int 0, .int 0]))) q25 (.inl (cy 1, 1000, .inr (.inl (fun _ => 0))))) x (.inr (6, [.int 0, .ref q7, .ref q15, .ref q25, .null, .int 0, .int 0, .int 0]))) q34 (.inl (cy 1, 1000, .inr (.inl (fun _ => 0))))) x (.inr (6, [.int 0, .ref q7, .ref q15, .ref q25, .ref q34, .int 0, .int 0, .int 0]))) x = some (.inr (6, [.int 0, .ref q7, .ref q15, .ref q25, .ref q34, .int 0, .int 0, .int 0])) := qs_self
      replace hP : qP D N0 (qs (qs (qs (qs (qs (qs (qs (qs h q7 (.inl (cy 3, 24, .inr (.inr (.inr (.inr (fun _ => none))))))) x (.inr (6, [.int 0, .ref q7, .null, .null, .null, .int 0, .int 0, .int 0]))) q15 (.inl (cy 2, 4, .inr (.inr (.inr (.inr (fun _ => none))))))) x (.inr (6, [.int 0, .ref q7, .ref q15, .null, .null, .int 0, .int 0, .int 0]))) q25 (.inl (cy 1, 1000, .inr (.inl (fun _ => 0))))) x (.inr (6, [.int 0, .ref q7, .ref q15, .ref q25, .null, .int 0, .int 0, .int 0]))) q34 (.inl (cy 1, 1000, .inr (.inl (fun _ => 0))))) x (.inr (6, [.int 0, .ref q7, .ref q15, .ref q25, .ref q34, .int 0, .int 0, .int 0]))) H := hP
      refine lv_iconst (v := 0) hx hb dX6_init_69 (by decide) ?_
      refine lv_istore_n (lv' := [(3, .int 0), (2, .int (qfm p0)), (0, .ref x), (1, .int p0)]) hx hb dX6_init_70 rfl hl (by decide) rfl (fun ls hl => ?_)
      generalize qs (qs (qs (qs (qs (qs (qs (qs h q7 (.inl (cy 3, 24, .inr (.inr (.inr (.inr (fun _ => none))))))) x (.inr (6, [.int 0, .ref q7, .null, .null, .null, .int 0, .int 0, .int 0]))) q15 (.inl (cy 2, 4, .inr (.inr (.inr (.inr (fun _ => none))))))) x (.inr (6, [.int 0, .ref q7, .ref q15, .null, .null, .int 0, .int 0, .int 0]))) q25 (.inl (cy 1, 1000, .inr (.inl (fun _ => 0))))) x (.inr (6, [.int 0, .ref q7, .ref q15, .ref q25, .null, .int 0, .int 0, .int 0]))) q34 (.inl (cy 1, 1000, .inr (.inl (fun _ => 0))))) x (.inr (6, [.int 0, .ref q7, .ref q15, .ref q25, .ref q34, .int 0, .int 0, .int 0])) = hc at hP hT fq7 fq15 fq25 fq34 hle
      obtain ⟨g, eg⟩ : ∃ g : Nat → Option Nat, g = fun _ => none := ⟨_, rfl⟩
      rw [← eg] at fq15
      clear eg
      obtain ⟨j, ej⟩ : ∃ j : Nat, j = 0 := ⟨_, rfl⟩
      replace hl : lv_has ls 4 [(3, .int (nI j)), (2, .int (qfm p0)), (0, .ref x), (1, .int p0)] := by rw [ej, nI_0]; exact hl
      obtain ⟨nj, hnj⟩ : ∃ n, j + n = 4 := ⟨4, by omega⟩
      have hInv : ∀ i, i < j → ∃ b rw, g i = some b ∧ b ≠ q15 ∧ rw ≠ q15 ∧ hc b = some (.inr (1, [.ref rw, .int 0, .int 0, .int 0, .null, .int 0])) ∧ hc rw = some (.inl (cy 1, 1000, .inr (.inl (fun _ => 0)))) := fun i hi => absurd hi (by omega)
      refine W.widen (k := 4 + 2 * j) (n := 2028 + 1006 * j) (by rw [ej]; decide) (by rw [ej]; decide) ?_
      clear ej
      clear n_q25_q7 n_q25_x n_q34_q7 n_q34_x n_q7_x
      induction nj generalizing j ls g hc H locs with
      | zero =>
        refine lv_iload_n hx hb dX6_init_71 rfl (lv_at hl 0 rfl) ?_
        refine lv_iconst (v := 4) hx hb dX6_init_72 (by decide) ?_
        refine lv_icmp_ge (tgt := 95) hx hb dX6_init_73 (by decide) (fun c73 => ?_) (fun c73 => ?_)
        · refine q_vret C hP hS ⟨rfl, q7, q15, q25, q34, g, ?_, fq7, fq15, fq25, fq34, n_q34_q25, fun i hi => ?_, hle⟩ (by omega) dX6_init_95
          · rw [hT]; simp [*]
          · obtain ⟨b, rw_, g1, -, -, g4, g5⟩ := hInv i (by omega)
            exact ⟨b, rw_, g1, g4, g5⟩
        · exact absurd ((nI_leI (a := 4) (b := j) (by omega) (by omega)).mpr (by omega)) c73
      | succ nj ihj =>
        refine lv_iload_n hx hb dX6_init_71 rfl (lv_at hl 0 rfl) ?_
        refine lv_iconst (v := 4) hx hb dX6_init_72 (by decide) ?_
        refine lv_icmp_ge (tgt := 95) hx hb dX6_init_73 (by decide) (fun c73 => ?_) (fun c73 => ?_)
        · exact absurd ((nI_leI (a := 4) (b := j) (by omega) (by omega)).mp c73) (by omega)
        · refine lv_aload_n hx hb dX6_init_76 rfl (lv_at hl 2 rfl) ?_
          refine q_get C hP hT rfl inX6 2 (by decide) g70 rfl dX6_init_77 ?_
          refine lv_iload_n hx hb dX6_init_80 rfl (lv_at hl 0 rfl) ?_
          refine q_new (ci := 1) (fs := [.null, .int 0, .int 0, .int 0, .null, .int 0]) C hP hS rfl inX1 tyX1 tyX1_ok g32 g37 g3 (fun j hj => by rcases (show j = 0 ∨ j = 1 ∨ j = 2 ∨ j = 3 ∨ j = 4 ∨ j = 5 by omega) with rfl | rfl | rfl | rfl | rfl | rfl <;> rfl) (by first | decide | omega) (by first | decide | omega) dX6_init_81 (fun q81 H eq81 hP hS => ?_)
          have n_q81_x : x ≠ q81 := qne_of eq81 hT
          replace hT := qle_new (o := (.inr (1, [.null, .int 0, .int 0, .int 0, .null, .int 0]))) eq81 _ _ hT
          have n_q81_q7 : q7 ≠ q81 := qne_of eq81 fq7
          replace fq7 := qle_new (o := (.inr (1, [.null, .int 0, .int 0, .int 0, .null, .int 0]))) eq81 _ _ fq7
          have n_q81_q15 : q15 ≠ q81 := qne_of eq81 fq15
          replace fq15 := qle_new (o := (.inr (1, [.null, .int 0, .int 0, .int 0, .null, .int 0]))) eq81 _ _ fq15
          have n_q81_q25 : q25 ≠ q81 := qne_of eq81 fq25
          replace fq25 := qle_new (o := (.inr (1, [.null, .int 0, .int 0, .int 0, .null, .int 0]))) eq81 _ _ fq25
          have n_q81_q34 : q34 ≠ q81 := qne_of eq81 fq34
          replace fq34 := qle_new (o := (.inr (1, [.null, .int 0, .int 0, .int 0, .null, .int 0]))) eq81 _ _ fq34
          have hb_q81 := hle
          have oq81 := qle_none hle eq81
          replace hle := qle_tr hle (qle_new (o := (.inr (1, [.null, .int 0, .int 0, .int 0, .null, .int 0]))) eq81)
          have fq81 : (qs hc q81 (.inr (1, [.null, .int 0, .int 0, .int 0, .null, .int 0]))) q81 = some (.inr (1, [.null, .int 0, .int 0, .int 0, .null, .int 0])) := qs_self
          refine lv_dup hx hb dX6_init_84 rfl ?_
          refine q_callIN (host := RX6) (rest := [.ref q81, .int (nI j), .ref q15]) C (c_X1_init l D cy N0 (qs hc q81 (.inr (1, [.null, .int 0, .int 0, .int 0, .null, .int 0]))) q81 fq81) kX1_init (by decide +kernel) g39 rfl hP hS (by first | decide | omega) hl.1 rfl (by simp [q_catrf, q_cati, q_catl, q_cata, q_catn]) (by first | decide | omega) dX6_init_85 (fun v hh2 H locs hq hP hS => ?_)
          obtain ⟨rfl, rr, err, rfl⟩ := hq
          have n_rr_x : x ≠ rr := qne_of err hT
          replace hT := qle_new (o := (.inl (cy 1, 1000, .inr (.inl (fun _ => 0))))) err _ _ hT
          have n_rr_q7 : q7 ≠ rr := qne_of err fq7
          replace fq7 := qle_new (o := (.inl (cy 1, 1000, .inr (.inl (fun _ => 0))))) err _ _ fq7
          have n_rr_q15 : q15 ≠ rr := qne_of err fq15
          replace fq15 := qle_new (o := (.inl (cy 1, 1000, .inr (.inl (fun _ => 0))))) err _ _ fq15
          have n_rr_q25 : q25 ≠ rr := qne_of err fq25
          replace fq25 := qle_new (o := (.inl (cy 1, 1000, .inr (.inl (fun _ => 0))))) err _ _ fq25
          have n_rr_q34 : q34 ≠ rr := qne_of err fq34
          replace fq34 := qle_new (o := (.inl (cy 1, 1000, .inr (.inl (fun _ => 0))))) err _ _ fq34
          have n_rr_q81 : q81 ≠ rr := qne_of err fq81
          replace fq81 := qle_new (o := (.inl (cy 1, 1000, .inr (.inl (fun _ => 0))))) err _ _ fq81
          have hb_rr := hle
          have orr := qle_none hle err
          replace hle := qle_tr hle (qle_new (o := (.inl (cy 1, 1000, .inr (.inl (fun _ => 0))))) err)
          have frr : (qs (qs hc q81 (.inr (1, [.null, .int 0, .int 0, .int 0, .null, .int 0]))) rr (.inl (cy 1, 1000, .inr (.inl (fun _ => 0))))) rr = some (.inl (cy 1, 1000, .inr (.inl (fun _ => 0)))) := qs_self
          have hb_q81 := hle
          replace hT := (qs_ne (h := (qs (qs hc q81 (.inr (1, [.null, .int 0, .int 0, .int 0, .null, .int 0]))) rr (.inl (cy 1, 1000, .inr (.inl (fun _ => 0)))))) (a := q81) (o := (.inr (1, [.ref rr, .int 0, .int 0, .int 0, .null, .int 0]))) n_q81_x).trans hT
          replace fq7 := (qs_ne (h := (qs (qs hc q81 (.inr (1, [.null, .int 0, .int 0, .int 0, .null, .int 0]))) rr (.inl (cy 1, 1000, .inr (.inl (fun _ => 0)))))) (a := q81) (o := (.inr (1, [.ref rr, .int 0, .int 0, .int 0, .null, .int 0]))) n_q81_q7).trans fq7
          replace fq15 := (qs_ne (h := (qs (qs hc q81 (.inr (1, [.null, .int 0, .int 0, .int 0, .null, .int 0]))) rr (.inl (cy 1, 1000, .inr (.inl (fun _ => 0)))))) (a := q81) (o := (.inr (1, [.ref rr, .int 0, .int 0, .int 0, .null, .int 0]))) n_q81_q15).trans fq15
          replace fq25 := (qs_ne (h := (qs (qs hc q81 (.inr (1, [.null, .int 0, .int 0, .int 0, .null, .int 0]))) rr (.inl (cy 1, 1000, .inr (.inl (fun _ => 0)))))) (a := q81) (o := (.inr (1, [.ref rr, .int 0, .int 0, .int 0, .null, .int 0]))) n_q81_q25).trans fq25
          replace fq34 := (qs_ne (h := (qs (qs hc q81 (.inr (1, [.null, .int 0, .int 0, .int 0, .null, .int 0]))) rr (.inl (cy 1, 1000, .inr (.inl (fun _ => 0)))))) (a := q81) (o := (.inr (1, [.ref rr, .int 0, .int 0, .int 0, .null, .int 0]))) n_q81_q34).trans fq34
          replace frr := (qs_ne (h := (qs (qs hc q81 (.inr (1, [.null, .int 0, .int 0, .int 0, .null, .int 0]))) rr (.inl (cy 1, 1000, .inr (.inl (fun _ => 0)))))) (a := q81) (o := (.inr (1, [.ref rr, .int 0, .int 0, .int 0, .null, .int 0]))) n_rr_q81.symm).trans frr
          replace hle : qle (qdel h x) (qs (qs (qs hc q81 (.inr (1, [.null, .int 0, .int 0, .int 0, .null, .int 0]))) rr (.inl (cy 1, 1000, .inr (.inl (fun _ => 0))))) q81 (.inr (1, [.ref rr, .int 0, .int 0, .int 0, .null, .int 0]))) := qle_set oq81 hb_q81
          replace fq81 : (qs (qs (qs hc q81 (.inr (1, [.null, .int 0, .int 0, .int 0, .null, .int 0]))) rr (.inl (cy 1, 1000, .inr (.inl (fun _ => 0))))) q81 (.inr (1, [.ref rr, .int 0, .int 0, .int 0, .null, .int 0]))) q81 = some (.inr (1, [.ref rr, .int 0, .int 0, .int 0, .null, .int 0])) := qs_self
          refine q_aastN (rc := (RX1, TX1, 6)) C rfl rfl hP hS fq15 fq81 (by omega) (by omega) dX6_init_88 (fun H locs hP hS => ?_)
          have hb_q15 := hle
          replace hT := (qs_ne (h := (qs (qs (qs hc q81 (.inr (1, [.null, .int 0, .int 0, .int 0, .null, .int 0]))) rr (.inl (cy 1, 1000, .inr (.inl (fun _ => 0))))) q81 (.inr (1, [.ref rr, .int 0, .int 0, .int 0, .null, .int 0])))) (a := q15) (o := (.inl (cy 2, 4, .inr (.inr (.inr (.inr (va_up g j (some q81)))))))) n_q15_x).trans hT
          replace fq7 := (qs_ne (h := (qs (qs (qs hc q81 (.inr (1, [.null, .int 0, .int 0, .int 0, .null, .int 0]))) rr (.inl (cy 1, 1000, .inr (.inl (fun _ => 0))))) q81 (.inr (1, [.ref rr, .int 0, .int 0, .int 0, .null, .int 0])))) (a := q15) (o := (.inl (cy 2, 4, .inr (.inr (.inr (.inr (va_up g j (some q81)))))))) n_q15_q7).trans fq7
          replace fq25 := (qs_ne (h := (qs (qs (qs hc q81 (.inr (1, [.null, .int 0, .int 0, .int 0, .null, .int 0]))) rr (.inl (cy 1, 1000, .inr (.inl (fun _ => 0))))) q81 (.inr (1, [.ref rr, .int 0, .int 0, .int 0, .null, .int 0])))) (a := q15) (o := (.inl (cy 2, 4, .inr (.inr (.inr (.inr (va_up g j (some q81)))))))) n_q25_q15.symm).trans fq25
          replace fq34 := (qs_ne (h := (qs (qs (qs hc q81 (.inr (1, [.null, .int 0, .int 0, .int 0, .null, .int 0]))) rr (.inl (cy 1, 1000, .inr (.inl (fun _ => 0))))) q81 (.inr (1, [.ref rr, .int 0, .int 0, .int 0, .null, .int 0])))) (a := q15) (o := (.inl (cy 2, 4, .inr (.inr (.inr (.inr (va_up g j (some q81)))))))) n_q34_q15.symm).trans fq34
          replace fq81 := (qs_ne (h := (qs (qs (qs hc q81 (.inr (1, [.null, .int 0, .int 0, .int 0, .null, .int 0]))) rr (.inl (cy 1, 1000, .inr (.inl (fun _ => 0))))) q81 (.inr (1, [.ref rr, .int 0, .int 0, .int 0, .null, .int 0])))) (a := q15) (o := (.inl (cy 2, 4, .inr (.inr (.inr (.inr (va_up g j (some q81)))))))) n_q81_q15.symm).trans fq81
          replace frr := (qs_ne (h := (qs (qs (qs hc q81 (.inr (1, [.null, .int 0, .int 0, .int 0, .null, .int 0]))) rr (.inl (cy 1, 1000, .inr (.inl (fun _ => 0))))) q81 (.inr (1, [.ref rr, .int 0, .int 0, .int 0, .null, .int 0])))) (a := q15) (o := (.inl (cy 2, 4, .inr (.inr (.inr (.inr (va_up g j (some q81)))))))) n_rr_q15.symm).trans frr
          replace hle : qle (qdel h x) (qs (qs (qs (qs hc q81 (.inr (1, [.null, .int 0, .int 0, .int 0, .null, .int 0]))) rr (.inl (cy 1, 1000, .inr (.inl (fun _ => 0))))) q81 (.inr (1, [.ref rr, .int 0, .int 0, .int 0, .null, .int 0]))) q15 (.inl (cy 2, 4, .inr (.inr (.inr (.inr (va_up g j (some q81)))))))) := qle_set oq15 hb_q15
          replace fq15 : (qs (qs (qs (qs hc q81 (.inr (1, [.null, .int 0, .int 0, .int 0, .null, .int 0]))) rr (.inl (cy 1, 1000, .inr (.inl (fun _ => 0))))) q81 (.inr (1, [.ref rr, .int 0, .int 0, .int 0, .null, .int 0]))) q15 (.inl (cy 2, 4, .inr (.inr (.inr (.inr (va_up g j (some q81)))))))) q15 = some (.inl (cy 2, 4, .inr (.inr (.inr (.inr (va_up g j (some q81))))))) := qs_self
          refine lv_iinc (v := nI (j + 1)) (lv' := [(3, .int (nI (j + 1))), (2, .int (qfm p0)), (0, .ref x), (1, .int p0)]) hx hb dX6_init_89 hl (k := 0) rfl (nI_1 j) (by decide) rfl (fun ls hl => ?_)
          refine lv_goto (tgt := 71) hx hb dX6_init_92 (by decide) ?_
          refine W.widen (k := 4 + 2 * (j + 1)) (n := 2028 + 1006 * (j + 1)) (by omega) (by omega) ?_
          have hk : ∀ a o, a ≠ q15 → hc a = some o → (qs (qs (qs (qs hc q81 (.inr (1, [.null, .int 0, .int 0, .int 0, .null, .int 0]))) rr (.inl (cy 1, 1000, .inr (.inl (fun _ => 0))))) q81 (.inr (1, [.ref rr, .int 0, .int 0, .int 0, .null, .int 0]))) q15 (.inl (cy 2, 4, .inr (.inr (.inr (.inr (va_up g j (some q81)))))))) a = some o := fun a o hn ha => (qs_ne hn).trans ((qs_ne (qne_of eq81 ha)).trans (qle_new err _ _ (qle_new eq81 _ _ ha)))
          refine ihj (ls := ls) (j := j + 1) (hP := hP) (hT := hT) (fq7 := fq7) (fq15 := fq15) (fq25 := fq25) (fq34 := fq34) (hle := hle) (hS := hS) (hl := lv_sub hl [0, 1, 2, 3] rfl) (hnj := by omega) (hInv := fun i hi => ?_)
          rcases Nat.lt_succ_iff_lt_or_eq.mp hi with hi | rfl
          · obtain ⟨b, rw_, g1, g2, g3, g4, g5⟩ := hInv i hi
            refine ⟨b, rw_, (va_up_ne g _ (by omega)).trans g1, g2, g3, ?_, ?_⟩
            · exact hk _ _ g2 g4
            · exact hk _ _ g3 g5
          · exact ⟨q81, rr, va_up_self g _ _, n_q81_q15.symm, n_rr_q15.symm, fq81, frr⟩
    · refine lv_sipush (v := 255) hx hb dX6_init_59 (by decide) ?_
      refine lv_goto (tgt := 66) hx hb dX6_init_62 (by decide) ?_
      refine q_putF C hP hS hT rfl inX6 tyX6 tyX6_ok nmX6 0 (by decide) g68 rfl rfl rfl rfl rfl (Nat.le_of_ble_eq_true rfl) dX6_init_66 (fun H locs hP hS => ?_)
      rw [qs_qs] at hP
      replace fq7 := qs_re (o' := (.inr (6, [.int 255, .ref q7, .ref q15, .ref q25, .ref q34, .int 0, .int 0, .int 0]))) n_q7_x.symm fq7
      replace fq15 := qs_re (o' := (.inr (6, [.int 255, .ref q7, .ref q15, .ref q25, .ref q34, .int 0, .int 0, .int 0]))) n_q15_x.symm fq15
      replace fq25 := qs_re (o' := (.inr (6, [.int 255, .ref q7, .ref q15, .ref q25, .ref q34, .int 0, .int 0, .int 0]))) n_q25_x.symm fq25
      replace fq34 := qs_re (o' := (.inr (6, [.int 255, .ref q7, .ref q15, .ref q25, .ref q34, .int 0, .int 0, .int 0]))) n_q34_x.symm fq34
      replace hle : qle (qdel h x) (qs (qs (qs (qs (qs (qs (qs (qs h q7 (.inl (cy 3, 24, .inr (.inr (.inr (.inr (fun _ => none))))))) x (.inr (6, [.int 0, .ref q7, .null, .null, .null, .int 0, .int 0, .int 0]))) q15 (.inl (cy 2, 4, .inr (.inr (.inr (.inr (fun _ => none))))))) x (.inr (6, [.int 0, .ref q7, .ref q15, .null, .null, .int 0, .int 0, .int 0]))) q25 (.inl (cy 1, 1000, .inr (.inl (fun _ => 0))))) x (.inr (6, [.int 0, .ref q7, .ref q15, .ref q25, .null, .int 0, .int 0, .int 0]))) q34 (.inl (cy 1, 1000, .inr (.inl (fun _ => 0))))) x (.inr (6, [.int 255, .ref q7, .ref q15, .ref q25, .ref q34, .int 0, .int 0, .int 0]))) := qle_set ox hb_x
      replace hT : (qs (qs (qs (qs (qs (qs (qs (qs h q7 (.inl (cy 3, 24, .inr (.inr (.inr (.inr (fun _ => none))))))) x (.inr (6, [.int 0, .ref q7, .null, .null, .null, .int 0, .int 0, .int 0]))) q15 (.inl (cy 2, 4, .inr (.inr (.inr (.inr (fun _ => none))))))) x (.inr (6, [.int 0, .ref q7, .ref q15, .null, .null, .int 0, .int 0, .int 0]))) q25 (.inl (cy 1, 1000, .inr (.inl (fun _ => 0))))) x (.inr (6, [.int 0, .ref q7, .ref q15, .ref q25, .null, .int 0, .int 0, .int 0]))) q34 (.inl (cy 1, 1000, .inr (.inl (fun _ => 0))))) x (.inr (6, [.int 255, .ref q7, .ref q15, .ref q25, .ref q34, .int 0, .int 0, .int 0]))) x = some (.inr (6, [.int 255, .ref q7, .ref q15, .ref q25, .ref q34, .int 0, .int 0, .int 0])) := qs_self
      replace hP : qP D N0 (qs (qs (qs (qs (qs (qs (qs (qs h q7 (.inl (cy 3, 24, .inr (.inr (.inr (.inr (fun _ => none))))))) x (.inr (6, [.int 0, .ref q7, .null, .null, .null, .int 0, .int 0, .int 0]))) q15 (.inl (cy 2, 4, .inr (.inr (.inr (.inr (fun _ => none))))))) x (.inr (6, [.int 0, .ref q7, .ref q15, .null, .null, .int 0, .int 0, .int 0]))) q25 (.inl (cy 1, 1000, .inr (.inl (fun _ => 0))))) x (.inr (6, [.int 0, .ref q7, .ref q15, .ref q25, .null, .int 0, .int 0, .int 0]))) q34 (.inl (cy 1, 1000, .inr (.inl (fun _ => 0))))) x (.inr (6, [.int 255, .ref q7, .ref q15, .ref q25, .ref q34, .int 0, .int 0, .int 0]))) H := hP
      refine lv_iconst (v := 0) hx hb dX6_init_69 (by decide) ?_
      refine lv_istore_n (lv' := [(3, .int 0), (2, .int (qfm p0)), (0, .ref x), (1, .int p0)]) hx hb dX6_init_70 rfl hl (by decide) rfl (fun ls hl => ?_)
      generalize qs (qs (qs (qs (qs (qs (qs (qs h q7 (.inl (cy 3, 24, .inr (.inr (.inr (.inr (fun _ => none))))))) x (.inr (6, [.int 0, .ref q7, .null, .null, .null, .int 0, .int 0, .int 0]))) q15 (.inl (cy 2, 4, .inr (.inr (.inr (.inr (fun _ => none))))))) x (.inr (6, [.int 0, .ref q7, .ref q15, .null, .null, .int 0, .int 0, .int 0]))) q25 (.inl (cy 1, 1000, .inr (.inl (fun _ => 0))))) x (.inr (6, [.int 0, .ref q7, .ref q15, .ref q25, .null, .int 0, .int 0, .int 0]))) q34 (.inl (cy 1, 1000, .inr (.inl (fun _ => 0))))) x (.inr (6, [.int 255, .ref q7, .ref q15, .ref q25, .ref q34, .int 0, .int 0, .int 0])) = hc at hP hT fq7 fq15 fq25 fq34 hle
      obtain ⟨g, eg⟩ : ∃ g : Nat → Option Nat, g = fun _ => none := ⟨_, rfl⟩
      rw [← eg] at fq15
      clear eg
      obtain ⟨j, ej⟩ : ∃ j : Nat, j = 0 := ⟨_, rfl⟩
      replace hl : lv_has ls 4 [(3, .int (nI j)), (2, .int (qfm p0)), (0, .ref x), (1, .int p0)] := by rw [ej, nI_0]; exact hl
      obtain ⟨nj, hnj⟩ : ∃ n, j + n = 4 := ⟨4, by omega⟩
      have hInv : ∀ i, i < j → ∃ b rw, g i = some b ∧ b ≠ q15 ∧ rw ≠ q15 ∧ hc b = some (.inr (1, [.ref rw, .int 0, .int 0, .int 0, .null, .int 0])) ∧ hc rw = some (.inl (cy 1, 1000, .inr (.inl (fun _ => 0)))) := fun i hi => absurd hi (by omega)
      refine W.widen (k := 4 + 2 * j) (n := 2028 + 1006 * j) (by rw [ej]; decide) (by rw [ej]; decide) ?_
      clear ej
      clear n_q25_q7 n_q25_x n_q34_q7 n_q34_x n_q7_x
      induction nj generalizing j ls g hc H locs with
      | zero =>
        refine lv_iload_n hx hb dX6_init_71 rfl (lv_at hl 0 rfl) ?_
        refine lv_iconst (v := 4) hx hb dX6_init_72 (by decide) ?_
        refine lv_icmp_ge (tgt := 95) hx hb dX6_init_73 (by decide) (fun c73 => ?_) (fun c73 => ?_)
        · refine q_vret C hP hS ⟨rfl, q7, q15, q25, q34, g, ?_, fq7, fq15, fq25, fq34, n_q34_q25, fun i hi => ?_, hle⟩ (by omega) dX6_init_95
          · rw [hT]; simp [*]
          · obtain ⟨b, rw_, g1, -, -, g4, g5⟩ := hInv i (by omega)
            exact ⟨b, rw_, g1, g4, g5⟩
        · exact absurd ((nI_leI (a := 4) (b := j) (by omega) (by omega)).mpr (by omega)) c73
      | succ nj ihj =>
        refine lv_iload_n hx hb dX6_init_71 rfl (lv_at hl 0 rfl) ?_
        refine lv_iconst (v := 4) hx hb dX6_init_72 (by decide) ?_
        refine lv_icmp_ge (tgt := 95) hx hb dX6_init_73 (by decide) (fun c73 => ?_) (fun c73 => ?_)
        · exact absurd ((nI_leI (a := 4) (b := j) (by omega) (by omega)).mp c73) (by omega)
        · refine lv_aload_n hx hb dX6_init_76 rfl (lv_at hl 2 rfl) ?_
          refine q_get C hP hT rfl inX6 2 (by decide) g70 rfl dX6_init_77 ?_
          refine lv_iload_n hx hb dX6_init_80 rfl (lv_at hl 0 rfl) ?_
          refine q_new (ci := 1) (fs := [.null, .int 0, .int 0, .int 0, .null, .int 0]) C hP hS rfl inX1 tyX1 tyX1_ok g32 g37 g3 (fun j hj => by rcases (show j = 0 ∨ j = 1 ∨ j = 2 ∨ j = 3 ∨ j = 4 ∨ j = 5 by omega) with rfl | rfl | rfl | rfl | rfl | rfl <;> rfl) (by first | decide | omega) (by first | decide | omega) dX6_init_81 (fun q81 H eq81 hP hS => ?_)
          have n_q81_x : x ≠ q81 := qne_of eq81 hT
          replace hT := qle_new (o := (.inr (1, [.null, .int 0, .int 0, .int 0, .null, .int 0]))) eq81 _ _ hT
          have n_q81_q7 : q7 ≠ q81 := qne_of eq81 fq7
          replace fq7 := qle_new (o := (.inr (1, [.null, .int 0, .int 0, .int 0, .null, .int 0]))) eq81 _ _ fq7
          have n_q81_q15 : q15 ≠ q81 := qne_of eq81 fq15
          replace fq15 := qle_new (o := (.inr (1, [.null, .int 0, .int 0, .int 0, .null, .int 0]))) eq81 _ _ fq15
          have n_q81_q25 : q25 ≠ q81 := qne_of eq81 fq25
          replace fq25 := qle_new (o := (.inr (1, [.null, .int 0, .int 0, .int 0, .null, .int 0]))) eq81 _ _ fq25
          have n_q81_q34 : q34 ≠ q81 := qne_of eq81 fq34
          replace fq34 := qle_new (o := (.inr (1, [.null, .int 0, .int 0, .int 0, .null, .int 0]))) eq81 _ _ fq34
          have hb_q81 := hle
          have oq81 := qle_none hle eq81
          replace hle := qle_tr hle (qle_new (o := (.inr (1, [.null, .int 0, .int 0, .int 0, .null, .int 0]))) eq81)
          have fq81 : (qs hc q81 (.inr (1, [.null, .int 0, .int 0, .int 0, .null, .int 0]))) q81 = some (.inr (1, [.null, .int 0, .int 0, .int 0, .null, .int 0])) := qs_self
          refine lv_dup hx hb dX6_init_84 rfl ?_
          refine q_callIN (host := RX6) (rest := [.ref q81, .int (nI j), .ref q15]) C (c_X1_init l D cy N0 (qs hc q81 (.inr (1, [.null, .int 0, .int 0, .int 0, .null, .int 0]))) q81 fq81) kX1_init (by decide +kernel) g39 rfl hP hS (by first | decide | omega) hl.1 rfl (by simp [q_catrf, q_cati, q_catl, q_cata, q_catn]) (by first | decide | omega) dX6_init_85 (fun v hh3 H locs hq hP hS => ?_)
          obtain ⟨rfl, rr, err, rfl⟩ := hq
          have n_rr_x : x ≠ rr := qne_of err hT
          replace hT := qle_new (o := (.inl (cy 1, 1000, .inr (.inl (fun _ => 0))))) err _ _ hT
          have n_rr_q7 : q7 ≠ rr := qne_of err fq7
          replace fq7 := qle_new (o := (.inl (cy 1, 1000, .inr (.inl (fun _ => 0))))) err _ _ fq7
          have n_rr_q15 : q15 ≠ rr := qne_of err fq15
          replace fq15 := qle_new (o := (.inl (cy 1, 1000, .inr (.inl (fun _ => 0))))) err _ _ fq15
          have n_rr_q25 : q25 ≠ rr := qne_of err fq25
          replace fq25 := qle_new (o := (.inl (cy 1, 1000, .inr (.inl (fun _ => 0))))) err _ _ fq25
          have n_rr_q34 : q34 ≠ rr := qne_of err fq34
          replace fq34 := qle_new (o := (.inl (cy 1, 1000, .inr (.inl (fun _ => 0))))) err _ _ fq34
          have n_rr_q81 : q81 ≠ rr := qne_of err fq81
          replace fq81 := qle_new (o := (.inl (cy 1, 1000, .inr (.inl (fun _ => 0))))) err _ _ fq81
          have hb_rr := hle
          have orr := qle_none hle err
          replace hle := qle_tr hle (qle_new (o := (.inl (cy 1, 1000, .inr (.inl (fun _ => 0))))) err)
          have frr : (qs (qs hc q81 (.inr (1, [.null, .int 0, .int 0, .int 0, .null, .int 0]))) rr (.inl (cy 1, 1000, .inr (.inl (fun _ => 0))))) rr = some (.inl (cy 1, 1000, .inr (.inl (fun _ => 0)))) := qs_self
          have hb_q81 := hle
          replace hT := (qs_ne (h := (qs (qs hc q81 (.inr (1, [.null, .int 0, .int 0, .int 0, .null, .int 0]))) rr (.inl (cy 1, 1000, .inr (.inl (fun _ => 0)))))) (a := q81) (o := (.inr (1, [.ref rr, .int 0, .int 0, .int 0, .null, .int 0]))) n_q81_x).trans hT
          replace fq7 := (qs_ne (h := (qs (qs hc q81 (.inr (1, [.null, .int 0, .int 0, .int 0, .null, .int 0]))) rr (.inl (cy 1, 1000, .inr (.inl (fun _ => 0)))))) (a := q81) (o := (.inr (1, [.ref rr, .int 0, .int 0, .int 0, .null, .int 0]))) n_q81_q7).trans fq7
          replace fq15 := (qs_ne (h := (qs (qs hc q81 (.inr (1, [.null, .int 0, .int 0, .int 0, .null, .int 0]))) rr (.inl (cy 1, 1000, .inr (.inl (fun _ => 0)))))) (a := q81) (o := (.inr (1, [.ref rr, .int 0, .int 0, .int 0, .null, .int 0]))) n_q81_q15).trans fq15
          replace fq25 := (qs_ne (h := (qs (qs hc q81 (.inr (1, [.null, .int 0, .int 0, .int 0, .null, .int 0]))) rr (.inl (cy 1, 1000, .inr (.inl (fun _ => 0)))))) (a := q81) (o := (.inr (1, [.ref rr, .int 0, .int 0, .int 0, .null, .int 0]))) n_q81_q25).trans fq25
          replace fq34 := (qs_ne (h := (qs (qs hc q81 (.inr (1, [.null, .int 0, .int 0, .int 0, .null, .int 0]))) rr (.inl (cy 1, 1000, .inr (.inl (fun _ => 0)))))) (a := q81) (o := (.inr (1, [.ref rr, .int 0, .int 0, .int 0, .null, .int 0]))) n_q81_q34).trans fq34
          replace frr := (qs_ne (h := (qs (qs hc q81 (.inr (1, [.null, .int 0, .int 0, .int 0, .null, .int 0]))) rr (.inl (cy 1, 1000, .inr (.inl (fun _ => 0)))))) (a := q81) (o := (.inr (1, [.ref rr, .int 0, .int 0, .int 0, .null, .int 0]))) n_rr_q81.symm).trans frr
          replace hle : qle (qdel h x) (qs (qs (qs hc q81 (.inr (1, [.null, .int 0, .int 0, .int 0, .null, .int 0]))) rr (.inl (cy 1, 1000, .inr (.inl (fun _ => 0))))) q81 (.inr (1, [.ref rr, .int 0, .int 0, .int 0, .null, .int 0]))) := qle_set oq81 hb_q81
          replace fq81 : (qs (qs (qs hc q81 (.inr (1, [.null, .int 0, .int 0, .int 0, .null, .int 0]))) rr (.inl (cy 1, 1000, .inr (.inl (fun _ => 0))))) q81 (.inr (1, [.ref rr, .int 0, .int 0, .int 0, .null, .int 0]))) q81 = some (.inr (1, [.ref rr, .int 0, .int 0, .int 0, .null, .int 0])) := qs_self
          refine q_aastN (rc := (RX1, TX1, 6)) C rfl rfl hP hS fq15 fq81 (by omega) (by omega) dX6_init_88 (fun H locs hP hS => ?_)
          have hb_q15 := hle
          replace hT := (qs_ne (h := (qs (qs (qs hc q81 (.inr (1, [.null, .int 0, .int 0, .int 0, .null, .int 0]))) rr (.inl (cy 1, 1000, .inr (.inl (fun _ => 0))))) q81 (.inr (1, [.ref rr, .int 0, .int 0, .int 0, .null, .int 0])))) (a := q15) (o := (.inl (cy 2, 4, .inr (.inr (.inr (.inr (va_up g j (some q81)))))))) n_q15_x).trans hT
          replace fq7 := (qs_ne (h := (qs (qs (qs hc q81 (.inr (1, [.null, .int 0, .int 0, .int 0, .null, .int 0]))) rr (.inl (cy 1, 1000, .inr (.inl (fun _ => 0))))) q81 (.inr (1, [.ref rr, .int 0, .int 0, .int 0, .null, .int 0])))) (a := q15) (o := (.inl (cy 2, 4, .inr (.inr (.inr (.inr (va_up g j (some q81)))))))) n_q15_q7).trans fq7
          replace fq25 := (qs_ne (h := (qs (qs (qs hc q81 (.inr (1, [.null, .int 0, .int 0, .int 0, .null, .int 0]))) rr (.inl (cy 1, 1000, .inr (.inl (fun _ => 0))))) q81 (.inr (1, [.ref rr, .int 0, .int 0, .int 0, .null, .int 0])))) (a := q15) (o := (.inl (cy 2, 4, .inr (.inr (.inr (.inr (va_up g j (some q81)))))))) n_q25_q15.symm).trans fq25
          replace fq34 := (qs_ne (h := (qs (qs (qs hc q81 (.inr (1, [.null, .int 0, .int 0, .int 0, .null, .int 0]))) rr (.inl (cy 1, 1000, .inr (.inl (fun _ => 0))))) q81 (.inr (1, [.ref rr, .int 0, .int 0, .int 0, .null, .int 0])))) (a := q15) (o := (.inl (cy 2, 4, .inr (.inr (.inr (.inr (va_up g j (some q81)))))))) n_q34_q15.symm).trans fq34
          replace fq81 := (qs_ne (h := (qs (qs (qs hc q81 (.inr (1, [.null, .int 0, .int 0, .int 0, .null, .int 0]))) rr (.inl (cy 1, 1000, .inr (.inl (fun _ => 0))))) q81 (.inr (1, [.ref rr, .int 0, .int 0, .int 0, .null, .int 0])))) (a := q15) (o := (.inl (cy 2, 4, .inr (.inr (.inr (.inr (va_up g j (some q81)))))))) n_q81_q15.symm).trans fq81
          replace frr := (qs_ne (h := (qs (qs (qs hc q81 (.inr (1, [.null, .int 0, .int 0, .int 0, .null, .int 0]))) rr (.inl (cy 1, 1000, .inr (.inl (fun _ => 0))))) q81 (.inr (1, [.ref rr, .int 0, .int 0, .int 0, .null, .int 0])))) (a := q15) (o := (.inl (cy 2, 4, .inr (.inr (.inr (.inr (va_up g j (some q81)))))))) n_rr_q15.symm).trans frr
          replace hle : qle (qdel h x) (qs (qs (qs (qs hc q81 (.inr (1, [.null, .int 0, .int 0, .int 0, .null, .int 0]))) rr (.inl (cy 1, 1000, .inr (.inl (fun _ => 0))))) q81 (.inr (1, [.ref rr, .int 0, .int 0, .int 0, .null, .int 0]))) q15 (.inl (cy 2, 4, .inr (.inr (.inr (.inr (va_up g j (some q81)))))))) := qle_set oq15 hb_q15
          replace fq15 : (qs (qs (qs (qs hc q81 (.inr (1, [.null, .int 0, .int 0, .int 0, .null, .int 0]))) rr (.inl (cy 1, 1000, .inr (.inl (fun _ => 0))))) q81 (.inr (1, [.ref rr, .int 0, .int 0, .int 0, .null, .int 0]))) q15 (.inl (cy 2, 4, .inr (.inr (.inr (.inr (va_up g j (some q81)))))))) q15 = some (.inl (cy 2, 4, .inr (.inr (.inr (.inr (va_up g j (some q81))))))) := qs_self
          refine lv_iinc (v := nI (j + 1)) (lv' := [(3, .int (nI (j + 1))), (2, .int (qfm p0)), (0, .ref x), (1, .int p0)]) hx hb dX6_init_89 hl (k := 0) rfl (nI_1 j) (by decide) rfl (fun ls hl => ?_)
          refine lv_goto (tgt := 71) hx hb dX6_init_92 (by decide) ?_
          refine W.widen (k := 4 + 2 * (j + 1)) (n := 2028 + 1006 * (j + 1)) (by omega) (by omega) ?_
          have hk : ∀ a o, a ≠ q15 → hc a = some o → (qs (qs (qs (qs hc q81 (.inr (1, [.null, .int 0, .int 0, .int 0, .null, .int 0]))) rr (.inl (cy 1, 1000, .inr (.inl (fun _ => 0))))) q81 (.inr (1, [.ref rr, .int 0, .int 0, .int 0, .null, .int 0]))) q15 (.inl (cy 2, 4, .inr (.inr (.inr (.inr (va_up g j (some q81)))))))) a = some o := fun a o hn ha => (qs_ne hn).trans ((qs_ne (qne_of eq81 ha)).trans (qle_new err _ _ (qle_new eq81 _ _ ha)))
          refine ihj (ls := ls) (j := j + 1) (hP := hP) (hT := hT) (fq7 := fq7) (fq15 := fq15) (fq25 := fq25) (fq34 := fq34) (hle := hle) (hS := hS) (hl := lv_sub hl [0, 1, 2, 3] rfl) (hnj := by omega) (hInv := fun i hi => ?_)
          rcases Nat.lt_succ_iff_lt_or_eq.mp hi with hi | rfl
          · obtain ⟨b, rw_, g1, g2, g3, g4, g5⟩ := hInv i hi
            refine ⟨b, rw_, (va_up_ne g _ (by omega)).trans g1, g2, g3, ?_, ?_⟩
            · exact hk _ _ g2 g4
            · exact hk _ _ g3 g5
          · exact ⟨q81, rr, va_up_self g _ _, n_q81_q15.symm, n_rr_q15.symm, fq81, frr⟩
  · refine lv_iconst (v := -1) hx hb dX6_init_50 (by decide) ?_
    refine lv_goto (tgt := 66) hx hb dX6_init_51 (by decide) ?_
    refine q_putF C hP hS hT rfl inX6 tyX6 tyX6_ok nmX6 0 (by decide) g68 rfl rfl rfl rfl rfl (Nat.le_of_ble_eq_true rfl) dX6_init_66 (fun H locs hP hS => ?_)
    rw [qs_qs] at hP
    replace fq7 := qs_re (o' := (.inr (6, [.int (-1), .ref q7, .ref q15, .ref q25, .ref q34, .int 0, .int 0, .int 0]))) n_q7_x.symm fq7
    replace fq15 := qs_re (o' := (.inr (6, [.int (-1), .ref q7, .ref q15, .ref q25, .ref q34, .int 0, .int 0, .int 0]))) n_q15_x.symm fq15
    replace fq25 := qs_re (o' := (.inr (6, [.int (-1), .ref q7, .ref q15, .ref q25, .ref q34, .int 0, .int 0, .int 0]))) n_q25_x.symm fq25
    replace fq34 := qs_re (o' := (.inr (6, [.int (-1), .ref q7, .ref q15, .ref q25, .ref q34, .int 0, .int 0, .int 0]))) n_q34_x.symm fq34
    replace hle : qle (qdel h x) (qs (qs (qs (qs (qs (qs (qs (qs h q7 (.inl (cy 3, 24, .inr (.inr (.inr (.inr (fun _ => none))))))) x (.inr (6, [.int 0, .ref q7, .null, .null, .null, .int 0, .int 0, .int 0]))) q15 (.inl (cy 2, 4, .inr (.inr (.inr (.inr (fun _ => none))))))) x (.inr (6, [.int 0, .ref q7, .ref q15, .null, .null, .int 0, .int 0, .int 0]))) q25 (.inl (cy 1, 1000, .inr (.inl (fun _ => 0))))) x (.inr (6, [.int 0, .ref q7, .ref q15, .ref q25, .null, .int 0, .int 0, .int 0]))) q34 (.inl (cy 1, 1000, .inr (.inl (fun _ => 0))))) x (.inr (6, [.int (-1), .ref q7, .ref q15, .ref q25, .ref q34, .int 0, .int 0, .int 0]))) := qle_set ox hb_x
    replace hT : (qs (qs (qs (qs (qs (qs (qs (qs h q7 (.inl (cy 3, 24, .inr (.inr (.inr (.inr (fun _ => none))))))) x (.inr (6, [.int 0, .ref q7, .null, .null, .null, .int 0, .int 0, .int 0]))) q15 (.inl (cy 2, 4, .inr (.inr (.inr (.inr (fun _ => none))))))) x (.inr (6, [.int 0, .ref q7, .ref q15, .null, .null, .int 0, .int 0, .int 0]))) q25 (.inl (cy 1, 1000, .inr (.inl (fun _ => 0))))) x (.inr (6, [.int 0, .ref q7, .ref q15, .ref q25, .null, .int 0, .int 0, .int 0]))) q34 (.inl (cy 1, 1000, .inr (.inl (fun _ => 0))))) x (.inr (6, [.int (-1), .ref q7, .ref q15, .ref q25, .ref q34, .int 0, .int 0, .int 0]))) x = some (.inr (6, [.int (-1), .ref q7, .ref q15, .ref q25, .ref q34, .int 0, .int 0, .int 0])) := qs_self
    replace hP : qP D N0 (qs (qs (qs (qs (qs (qs (qs (qs h q7 (.inl (cy 3, 24, .inr (.inr (.inr (.inr (fun _ => none))))))) x (.inr (6, [.int 0, .ref q7, .null, .null, .null, .int 0, .int 0, .int 0]))) q15 (.inl (cy 2, 4, .inr (.inr (.inr (.inr (fun _ => none))))))) x (.inr (6, [.int 0, .ref q7, .ref q15, .null, .null, .int 0, .int 0, .int 0]))) q25 (.inl (cy 1, 1000, .inr (.inl (fun _ => 0))))) x (.inr (6, [.int 0, .ref q7, .ref q15, .ref q25, .null, .int 0, .int 0, .int 0]))) q34 (.inl (cy 1, 1000, .inr (.inl (fun _ => 0))))) x (.inr (6, [.int (-1), .ref q7, .ref q15, .ref q25, .ref q34, .int 0, .int 0, .int 0]))) H := hP
    refine lv_iconst (v := 0) hx hb dX6_init_69 (by decide) ?_
    refine lv_istore_n (lv' := [(3, .int 0), (2, .int (qfm p0)), (0, .ref x), (1, .int p0)]) hx hb dX6_init_70 rfl hl (by decide) rfl (fun ls hl => ?_)
    generalize qs (qs (qs (qs (qs (qs (qs (qs h q7 (.inl (cy 3, 24, .inr (.inr (.inr (.inr (fun _ => none))))))) x (.inr (6, [.int 0, .ref q7, .null, .null, .null, .int 0, .int 0, .int 0]))) q15 (.inl (cy 2, 4, .inr (.inr (.inr (.inr (fun _ => none))))))) x (.inr (6, [.int 0, .ref q7, .ref q15, .null, .null, .int 0, .int 0, .int 0]))) q25 (.inl (cy 1, 1000, .inr (.inl (fun _ => 0))))) x (.inr (6, [.int 0, .ref q7, .ref q15, .ref q25, .null, .int 0, .int 0, .int 0]))) q34 (.inl (cy 1, 1000, .inr (.inl (fun _ => 0))))) x (.inr (6, [.int (-1), .ref q7, .ref q15, .ref q25, .ref q34, .int 0, .int 0, .int 0])) = hc at hP hT fq7 fq15 fq25 fq34 hle
    obtain ⟨g, eg⟩ : ∃ g : Nat → Option Nat, g = fun _ => none := ⟨_, rfl⟩
    rw [← eg] at fq15
    clear eg
    obtain ⟨j, ej⟩ : ∃ j : Nat, j = 0 := ⟨_, rfl⟩
    replace hl : lv_has ls 4 [(3, .int (nI j)), (2, .int (qfm p0)), (0, .ref x), (1, .int p0)] := by rw [ej, nI_0]; exact hl
    obtain ⟨nj, hnj⟩ : ∃ n, j + n = 4 := ⟨4, by omega⟩
    have hInv : ∀ i, i < j → ∃ b rw, g i = some b ∧ b ≠ q15 ∧ rw ≠ q15 ∧ hc b = some (.inr (1, [.ref rw, .int 0, .int 0, .int 0, .null, .int 0])) ∧ hc rw = some (.inl (cy 1, 1000, .inr (.inl (fun _ => 0)))) := fun i hi => absurd hi (by omega)
    refine W.widen (k := 4 + 2 * j) (n := 2028 + 1006 * j) (by rw [ej]; decide) (by rw [ej]; decide) ?_
    clear ej
    clear n_q25_q7 n_q25_x n_q34_q7 n_q34_x n_q7_x
    induction nj generalizing j ls g hc H locs with
    | zero =>
      refine lv_iload_n hx hb dX6_init_71 rfl (lv_at hl 0 rfl) ?_
      refine lv_iconst (v := 4) hx hb dX6_init_72 (by decide) ?_
      refine lv_icmp_ge (tgt := 95) hx hb dX6_init_73 (by decide) (fun c73 => ?_) (fun c73 => ?_)
      · refine q_vret C hP hS ⟨rfl, q7, q15, q25, q34, g, ?_, fq7, fq15, fq25, fq34, n_q34_q25, fun i hi => ?_, hle⟩ (by omega) dX6_init_95
        · rw [hT]; simp [*]
        · obtain ⟨b, rw_, g1, -, -, g4, g5⟩ := hInv i (by omega)
          exact ⟨b, rw_, g1, g4, g5⟩
      · exact absurd ((nI_leI (a := 4) (b := j) (by omega) (by omega)).mpr (by omega)) c73
    | succ nj ihj =>
      refine lv_iload_n hx hb dX6_init_71 rfl (lv_at hl 0 rfl) ?_
      refine lv_iconst (v := 4) hx hb dX6_init_72 (by decide) ?_
      refine lv_icmp_ge (tgt := 95) hx hb dX6_init_73 (by decide) (fun c73 => ?_) (fun c73 => ?_)
      · exact absurd ((nI_leI (a := 4) (b := j) (by omega) (by omega)).mp c73) (by omega)
      · refine lv_aload_n hx hb dX6_init_76 rfl (lv_at hl 2 rfl) ?_
        refine q_get C hP hT rfl inX6 2 (by decide) g70 rfl dX6_init_77 ?_
        refine lv_iload_n hx hb dX6_init_80 rfl (lv_at hl 0 rfl) ?_
        refine q_new (ci := 1) (fs := [.null, .int 0, .int 0, .int 0, .null, .int 0]) C hP hS rfl inX1 tyX1 tyX1_ok g32 g37 g3 (fun j hj => by rcases (show j = 0 ∨ j = 1 ∨ j = 2 ∨ j = 3 ∨ j = 4 ∨ j = 5 by omega) with rfl | rfl | rfl | rfl | rfl | rfl <;> rfl) (by first | decide | omega) (by first | decide | omega) dX6_init_81 (fun q81 H eq81 hP hS => ?_)
        have n_q81_x : x ≠ q81 := qne_of eq81 hT
        replace hT := qle_new (o := (.inr (1, [.null, .int 0, .int 0, .int 0, .null, .int 0]))) eq81 _ _ hT
        have n_q81_q7 : q7 ≠ q81 := qne_of eq81 fq7
        replace fq7 := qle_new (o := (.inr (1, [.null, .int 0, .int 0, .int 0, .null, .int 0]))) eq81 _ _ fq7
        have n_q81_q15 : q15 ≠ q81 := qne_of eq81 fq15
        replace fq15 := qle_new (o := (.inr (1, [.null, .int 0, .int 0, .int 0, .null, .int 0]))) eq81 _ _ fq15
        have n_q81_q25 : q25 ≠ q81 := qne_of eq81 fq25
        replace fq25 := qle_new (o := (.inr (1, [.null, .int 0, .int 0, .int 0, .null, .int 0]))) eq81 _ _ fq25
        have n_q81_q34 : q34 ≠ q81 := qne_of eq81 fq34
        replace fq34 := qle_new (o := (.inr (1, [.null, .int 0, .int 0, .int 0, .null, .int 0]))) eq81 _ _ fq34
        have hb_q81 := hle
        have oq81 := qle_none hle eq81
        replace hle := qle_tr hle (qle_new (o := (.inr (1, [.null, .int 0, .int 0, .int 0, .null, .int 0]))) eq81)
        have fq81 : (qs hc q81 (.inr (1, [.null, .int 0, .int 0, .int 0, .null, .int 0]))) q81 = some (.inr (1, [.null, .int 0, .int 0, .int 0, .null, .int 0])) := qs_self
        refine lv_dup hx hb dX6_init_84 rfl ?_
        refine q_callIN (host := RX6) (rest := [.ref q81, .int (nI j), .ref q15]) C (c_X1_init l D cy N0 (qs hc q81 (.inr (1, [.null, .int 0, .int 0, .int 0, .null, .int 0]))) q81 fq81) kX1_init (by decide +kernel) g39 rfl hP hS (by first | decide | omega) hl.1 rfl (by simp [q_catrf, q_cati, q_catl, q_cata, q_catn]) (by first | decide | omega) dX6_init_85 (fun v hh4 H locs hq hP hS => ?_)
        obtain ⟨rfl, rr, err, rfl⟩ := hq
        have n_rr_x : x ≠ rr := qne_of err hT
        replace hT := qle_new (o := (.inl (cy 1, 1000, .inr (.inl (fun _ => 0))))) err _ _ hT
        have n_rr_q7 : q7 ≠ rr := qne_of err fq7
        replace fq7 := qle_new (o := (.inl (cy 1, 1000, .inr (.inl (fun _ => 0))))) err _ _ fq7
        have n_rr_q15 : q15 ≠ rr := qne_of err fq15
        replace fq15 := qle_new (o := (.inl (cy 1, 1000, .inr (.inl (fun _ => 0))))) err _ _ fq15
        have n_rr_q25 : q25 ≠ rr := qne_of err fq25
        replace fq25 := qle_new (o := (.inl (cy 1, 1000, .inr (.inl (fun _ => 0))))) err _ _ fq25
        have n_rr_q34 : q34 ≠ rr := qne_of err fq34
        replace fq34 := qle_new (o := (.inl (cy 1, 1000, .inr (.inl (fun _ => 0))))) err _ _ fq34
        have n_rr_q81 : q81 ≠ rr := qne_of err fq81
        replace fq81 := qle_new (o := (.inl (cy 1, 1000, .inr (.inl (fun _ => 0))))) err _ _ fq81
        have hb_rr := hle
        have orr := qle_none hle err
        replace hle := qle_tr hle (qle_new (o := (.inl (cy 1, 1000, .inr (.inl (fun _ => 0))))) err)
        have frr : (qs (qs hc q81 (.inr (1, [.null, .int 0, .int 0, .int 0, .null, .int 0]))) rr (.inl (cy 1, 1000, .inr (.inl (fun _ => 0))))) rr = some (.inl (cy 1, 1000, .inr (.inl (fun _ => 0)))) := qs_self
        have hb_q81 := hle
        replace hT := (qs_ne (h := (qs (qs hc q81 (.inr (1, [.null, .int 0, .int 0, .int 0, .null, .int 0]))) rr (.inl (cy 1, 1000, .inr (.inl (fun _ => 0)))))) (a := q81) (o := (.inr (1, [.ref rr, .int 0, .int 0, .int 0, .null, .int 0]))) n_q81_x).trans hT
        replace fq7 := (qs_ne (h := (qs (qs hc q81 (.inr (1, [.null, .int 0, .int 0, .int 0, .null, .int 0]))) rr (.inl (cy 1, 1000, .inr (.inl (fun _ => 0)))))) (a := q81) (o := (.inr (1, [.ref rr, .int 0, .int 0, .int 0, .null, .int 0]))) n_q81_q7).trans fq7
        replace fq15 := (qs_ne (h := (qs (qs hc q81 (.inr (1, [.null, .int 0, .int 0, .int 0, .null, .int 0]))) rr (.inl (cy 1, 1000, .inr (.inl (fun _ => 0)))))) (a := q81) (o := (.inr (1, [.ref rr, .int 0, .int 0, .int 0, .null, .int 0]))) n_q81_q15).trans fq15
        replace fq25 := (qs_ne (h := (qs (qs hc q81 (.inr (1, [.null, .int 0, .int 0, .int 0, .null, .int 0]))) rr (.inl (cy 1, 1000, .inr (.inl (fun _ => 0)))))) (a := q81) (o := (.inr (1, [.ref rr, .int 0, .int 0, .int 0, .null, .int 0]))) n_q81_q25).trans fq25
        replace fq34 := (qs_ne (h := (qs (qs hc q81 (.inr (1, [.null, .int 0, .int 0, .int 0, .null, .int 0]))) rr (.inl (cy 1, 1000, .inr (.inl (fun _ => 0)))))) (a := q81) (o := (.inr (1, [.ref rr, .int 0, .int 0, .int 0, .null, .int 0]))) n_q81_q34).trans fq34
        replace frr := (qs_ne (h := (qs (qs hc q81 (.inr (1, [.null, .int 0, .int 0, .int 0, .null, .int 0]))) rr (.inl (cy 1, 1000, .inr (.inl (fun _ => 0)))))) (a := q81) (o := (.inr (1, [.ref rr, .int 0, .int 0, .int 0, .null, .int 0]))) n_rr_q81.symm).trans frr
        replace hle : qle (qdel h x) (qs (qs (qs hc q81 (.inr (1, [.null, .int 0, .int 0, .int 0, .null, .int 0]))) rr (.inl (cy 1, 1000, .inr (.inl (fun _ => 0))))) q81 (.inr (1, [.ref rr, .int 0, .int 0, .int 0, .null, .int 0]))) := qle_set oq81 hb_q81
        replace fq81 : (qs (qs (qs hc q81 (.inr (1, [.null, .int 0, .int 0, .int 0, .null, .int 0]))) rr (.inl (cy 1, 1000, .inr (.inl (fun _ => 0))))) q81 (.inr (1, [.ref rr, .int 0, .int 0, .int 0, .null, .int 0]))) q81 = some (.inr (1, [.ref rr, .int 0, .int 0, .int 0, .null, .int 0])) := qs_self
        refine q_aastN (rc := (RX1, TX1, 6)) C rfl rfl hP hS fq15 fq81 (by omega) (by omega) dX6_init_88 (fun H locs hP hS => ?_)
        have hb_q15 := hle
        replace hT := (qs_ne (h := (qs (qs (qs hc q81 (.inr (1, [.null, .int 0, .int 0, .int 0, .null, .int 0]))) rr (.inl (cy 1, 1000, .inr (.inl (fun _ => 0))))) q81 (.inr (1, [.ref rr, .int 0, .int 0, .int 0, .null, .int 0])))) (a := q15) (o := (.inl (cy 2, 4, .inr (.inr (.inr (.inr (va_up g j (some q81)))))))) n_q15_x).trans hT
        replace fq7 := (qs_ne (h := (qs (qs (qs hc q81 (.inr (1, [.null, .int 0, .int 0, .int 0, .null, .int 0]))) rr (.inl (cy 1, 1000, .inr (.inl (fun _ => 0))))) q81 (.inr (1, [.ref rr, .int 0, .int 0, .int 0, .null, .int 0])))) (a := q15) (o := (.inl (cy 2, 4, .inr (.inr (.inr (.inr (va_up g j (some q81)))))))) n_q15_q7).trans fq7
        replace fq25 := (qs_ne (h := (qs (qs (qs hc q81 (.inr (1, [.null, .int 0, .int 0, .int 0, .null, .int 0]))) rr (.inl (cy 1, 1000, .inr (.inl (fun _ => 0))))) q81 (.inr (1, [.ref rr, .int 0, .int 0, .int 0, .null, .int 0])))) (a := q15) (o := (.inl (cy 2, 4, .inr (.inr (.inr (.inr (va_up g j (some q81)))))))) n_q25_q15.symm).trans fq25
        replace fq34 := (qs_ne (h := (qs (qs (qs hc q81 (.inr (1, [.null, .int 0, .int 0, .int 0, .null, .int 0]))) rr (.inl (cy 1, 1000, .inr (.inl (fun _ => 0))))) q81 (.inr (1, [.ref rr, .int 0, .int 0, .int 0, .null, .int 0])))) (a := q15) (o := (.inl (cy 2, 4, .inr (.inr (.inr (.inr (va_up g j (some q81)))))))) n_q34_q15.symm).trans fq34
        replace fq81 := (qs_ne (h := (qs (qs (qs hc q81 (.inr (1, [.null, .int 0, .int 0, .int 0, .null, .int 0]))) rr (.inl (cy 1, 1000, .inr (.inl (fun _ => 0))))) q81 (.inr (1, [.ref rr, .int 0, .int 0, .int 0, .null, .int 0])))) (a := q15) (o := (.inl (cy 2, 4, .inr (.inr (.inr (.inr (va_up g j (some q81)))))))) n_q81_q15.symm).trans fq81
        replace frr := (qs_ne (h := (qs (qs (qs hc q81 (.inr (1, [.null, .int 0, .int 0, .int 0, .null, .int 0]))) rr (.inl (cy 1, 1000, .inr (.inl (fun _ => 0))))) q81 (.inr (1, [.ref rr, .int 0, .int 0, .int 0, .null, .int 0])))) (a := q15) (o := (.inl (cy 2, 4, .inr (.inr (.inr (.inr (va_up g j (some q81)))))))) n_rr_q15.symm).trans frr
        replace hle : qle (qdel h x) (qs (qs (qs (qs hc q81 (.inr (1, [.null, .int 0, .int 0, .int 0, .null, .int 0]))) rr (.inl (cy 1, 1000, .inr (.inl (fun _ => 0))))) q81 (.inr (1, [.ref rr, .int 0, .int 0, .int 0, .null, .int 0]))) q15 (.inl (cy 2, 4, .inr (.inr (.inr (.inr (va_up g j (some q81)))))))) := qle_set oq15 hb_q15
        replace fq15 : (qs (qs (qs (qs hc q81 (.inr (1, [.null, .int 0, .int 0, .int 0, .null, .int 0]))) rr (.inl (cy 1, 1000, .inr (.inl (fun _ => 0))))) q81 (.inr (1, [.ref rr, .int 0, .int 0, .int 0, .null, .int 0]))) q15 (.inl (cy 2, 4, .inr (.inr (.inr (.inr (va_up g j (some q81)))))))) q15 = some (.inl (cy 2, 4, .inr (.inr (.inr (.inr (va_up g j (some q81))))))) := qs_self
        refine lv_iinc (v := nI (j + 1)) (lv' := [(3, .int (nI (j + 1))), (2, .int (qfm p0)), (0, .ref x), (1, .int p0)]) hx hb dX6_init_89 hl (k := 0) rfl (nI_1 j) (by decide) rfl (fun ls hl => ?_)
        refine lv_goto (tgt := 71) hx hb dX6_init_92 (by decide) ?_
        refine W.widen (k := 4 + 2 * (j + 1)) (n := 2028 + 1006 * (j + 1)) (by omega) (by omega) ?_
        have hk : ∀ a o, a ≠ q15 → hc a = some o → (qs (qs (qs (qs hc q81 (.inr (1, [.null, .int 0, .int 0, .int 0, .null, .int 0]))) rr (.inl (cy 1, 1000, .inr (.inl (fun _ => 0))))) q81 (.inr (1, [.ref rr, .int 0, .int 0, .int 0, .null, .int 0]))) q15 (.inl (cy 2, 4, .inr (.inr (.inr (.inr (va_up g j (some q81)))))))) a = some o := fun a o hn ha => (qs_ne hn).trans ((qs_ne (qne_of eq81 ha)).trans (qle_new err _ _ (qle_new eq81 _ _ ha)))
        refine ihj (ls := ls) (j := j + 1) (hP := hP) (hT := hT) (fq7 := fq7) (fq15 := fq15) (fq25 := fq25) (fq34 := fq34) (hle := hle) (hS := hS) (hl := lv_sub hl [0, 1, 2, 3] rfl) (hnj := by omega) (hInv := fun i hi => ?_)
        rcases Nat.lt_succ_iff_lt_or_eq.mp hi with hi | rfl
        · obtain ⟨b, rw_, g1, g2, g3, g4, g5⟩ := hInv i hi
          refine ⟨b, rw_, (va_up_ne g _ (by omega)).trans g1, g2, g3, ?_, ?_⟩
          · exact hk _ _ g2 g4
          · exact hk _ _ g3 g5
        · exact ⟨q81, rr, va_up_self g _ _, n_q81_q15.symm, n_rr_q15.symm, fq81, frr⟩
