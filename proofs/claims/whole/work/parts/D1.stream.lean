theorem dX5_mapped_0 : decode cX5_mapped 0 = .ok (.new 8, 3) := by decide +kernel
theorem dX5_mapped_3 : decode cX5_mapped 3 = .ok (.dup, 1) := by decide +kernel
theorem dX5_mapped_4 : decode cX5_mapped 4 = .ok (.lload_n 0, 1) := by decide +kernel
theorem dX5_mapped_5 : decode cX5_mapped 5 = .ok (.iconst 3, 1) := by decide +kernel
theorem dX5_mapped_6 : decode cX5_mapped 6 = .ok (.invokespecial 25, 3) := by decide +kernel
theorem dX5_mapped_9 : decode cX5_mapped 9 = .ok (.astore 6, 2) := by decide +kernel
theorem dX5_mapped_11 : decode cX5_mapped 11 = .ok (.aload 6, 2) := by decide +kernel
theorem dX5_mapped_13 : decode cX5_mapped 13 = .ok (.iload_n 2, 1) := by decide +kernel
theorem dX5_mapped_14 : decode cX5_mapped 14 = .ok (.putfield 32, 3) := by decide +kernel
theorem dX5_mapped_17 : decode cX5_mapped 17 = .ok (.aload 6, 2) := by decide +kernel
theorem dX5_mapped_19 : decode cX5_mapped 19 = .ok (.lload_n 3, 1) := by decide +kernel
theorem dX5_mapped_20 : decode cX5_mapped 20 = .ok (.putfield 35, 3) := by decide +kernel
theorem dX5_mapped_23 : decode cX5_mapped 23 = .ok (.aload 6, 2) := by decide +kernel
theorem dX5_mapped_25 : decode cX5_mapped 25 = .ok (.aload 5, 2) := by decide +kernel
theorem dX5_mapped_27 : decode cX5_mapped 27 = .ok (.putfield 54, 3) := by decide +kernel
theorem dX5_mapped_30 : decode cX5_mapped 30 = .ok (.aload 6, 2) := by decide +kernel
theorem dX5_mapped_32 : decode cX5_mapped 32 = .ok (.areturn, 1) := by decide +kernel
set_option maxRecDepth 100000 in
set_option maxHeartbeats 4000000 in
theorem c_X5_mapped (l : Launch) (D : va_G) (cy : Nat → ClassId) (N0 : Nat) (h : qH) (v0 : Int64) (fc : Int32) (cc0 : Int64) (sq : Nat) : qC l D cy N0 yX5_mapped cX5_mapped 7 (some (.object RX5)) 2 35 1 10 [.long v0, .int fc, .long cc0, .ref sq] h (fun v h' => ∃ q, v = some (.ref q) ∧ h q = none ∧ h' = qs h q (.inr (5, [.long v0, .int 3, .int fc, .long cc0, .int 0, .ref sq, .null, .null, .int 0, .null]))) (fun E h' => False) := by
  refine q_ofW (by decide) (by exact Nat.le_of_ble_eq_true rfl) ?_
  intro p e s m below meth c ls C hP hl
  have hx := C.1
  have hb := C.2.1
  have hS : va_S (qA N0) s.heap s.heap [] := va_S.rf
  have hl : lv_has ls 7 [(0, .long v0), (2, .int fc), (3, .long cc0), (5, .ref sq)] := hl
  have hle : qle h h := qle_rf
  refine q_new (ci := 5) (fs := [.long 0, .int 0, .int 0, .long 0, .int 0, .null, .null, .null, .int 0, .null]) C hP hS rfl inX5 tyX5 tyX5_ok g529 g530 g18 (fun j hj => by rcases (show j = 0 ∨ j = 1 ∨ j = 2 ∨ j = 3 ∨ j = 4 ∨ j = 5 ∨ j = 6 ∨ j = 7 ∨ j = 8 ∨ j = 9 by omega) with rfl | rfl | rfl | rfl | rfl | rfl | rfl | rfl | rfl | rfl <;> rfl) (by first | decide | omega) (by first | decide | omega) dX5_mapped_0 (fun q0 H eq0 hP hS => ?_)
  have hb_q0 := hle
  have oq0 := qle_none hle eq0
  replace hle := qle_tr hle (qle_new (o := (.inr (5, [.long 0, .int 0, .int 0, .long 0, .int 0, .null, .null, .null, .int 0, .null]))) eq0)
  have fq0 : (qs h q0 (.inr (5, [.long 0, .int 0, .int 0, .long 0, .int 0, .null, .null, .null, .int 0, .null]))) q0 = some (.inr (5, [.long 0, .int 0, .int 0, .long 0, .int 0, .null, .null, .null, .int 0, .null])) := qs_self
  refine lv_dup hx hb dX5_mapped_3 rfl ?_
  refine lv_lload_n hx hb dX5_mapped_4 rfl (lv_at hl 0 rfl) ?_
  refine lv_iconst (v := 3) hx hb dX5_mapped_5 (by decide) ?_
  refine q_callI (rest := [.ref q0]) C (c_X5_init l D cy N0 (qs h q0 (.inr (5, [.long 0, .int 0, .int 0, .long 0, .int 0, .null, .null, .null, .int 0, .null]))) q0 v0 3 fq0) kX5_init g531 g532 rfl hP hS (by first | decide | omega) hl.1 rfl (by simp [q_catrf, q_cati, q_catl, q_cata, q_catn]) (by first | decide | omega) dX5_mapped_6 (fun v hh1 H locs hq hP hS => ?_)
  obtain ⟨rfl, rfl⟩ := hq
  rw [qs_qs] at hP
  replace hle : qle h (qs h q0 (.inr (5, [.long v0, .int 3, .int 0, .long 0, .int 0, .null, .null, .null, .int 0, .null]))) := qle_set oq0 hb_q0
  replace fq0 : (qs h q0 (.inr (5, [.long v0, .int 3, .int 0, .long 0, .int 0, .null, .null, .null, .int 0, .null]))) q0 = some (.inr (5, [.long v0, .int 3, .int 0, .long 0, .int 0, .null, .null, .null, .int 0, .null])) := qs_self
  refine lv_astore (lv' := [(6, .ref q0), (0, .long v0), (2, .int fc), (3, .long cc0), (5, .ref sq)]) hx hb dX5_mapped_9 hl (by decide) rfl (fun ls hl => ?_)
  refine lv_aload hx hb dX5_mapped_11 (lv_at hl 0 rfl) ?_
  refine lv_iload_n hx hb dX5_mapped_13 rfl (lv_at hl 2 rfl) ?_
  refine q_put C hP hS fq0 rfl inX5 tyX5 tyX5_ok nmX5 2 (by decide) g539 rfl rfl rfl (Nat.le_of_ble_eq_true rfl) dX5_mapped_14 (fun H locs hP hS => ?_)
  rw [qs_qs] at hP
  replace hle : qle h (qs h q0 (.inr (5, [.long v0, .int 3, .int fc, .long 0, .int 0, .null, .null, .null, .int 0, .null]))) := qle_set oq0 hb_q0
  replace fq0 : (qs h q0 (.inr (5, [.long v0, .int 3, .int fc, .long 0, .int 0, .null, .null, .null, .int 0, .null]))) q0 = some (.inr (5, [.long v0, .int 3, .int fc, .long 0, .int 0, .null, .null, .null, .int 0, .null])) := qs_self
  replace hP : qP D N0 (qs h q0 (.inr (5, [.long v0, .int 3, .int fc, .long 0, .int 0, .null, .null, .null, .int 0, .null]))) H := hP
  refine lv_aload hx hb dX5_mapped_17 (lv_at hl 0 rfl) ?_
  refine lv_lload_n hx hb dX5_mapped_19 rfl (lv_at hl 3 rfl) ?_
  refine q_put C hP hS fq0 rfl inX5 tyX5 tyX5_ok nmX5 3 (by decide) g541 rfl rfl rfl (Nat.le_of_ble_eq_true rfl) dX5_mapped_20 (fun H locs hP hS => ?_)
  rw [qs_qs] at hP
  replace hle : qle h (qs h q0 (.inr (5, [.long v0, .int 3, .int fc, .long cc0, .int 0, .null, .null, .null, .int 0, .null]))) := qle_set oq0 hb_q0
  replace fq0 : (qs h q0 (.inr (5, [.long v0, .int 3, .int fc, .long cc0, .int 0, .null, .null, .null, .int 0, .null]))) q0 = some (.inr (5, [.long v0, .int 3, .int fc, .long cc0, .int 0, .null, .null, .null, .int 0, .null])) := qs_self
  replace hP : qP D N0 (qs h q0 (.inr (5, [.long v0, .int 3, .int fc, .long cc0, .int 0, .null, .null, .null, .int 0, .null]))) H := hP
  refine lv_aload hx hb dX5_mapped_23 (lv_at hl 0 rfl) ?_
  refine lv_aload hx hb dX5_mapped_25 (lv_at hl 4 rfl) ?_
  refine q_put C hP hS fq0 rfl inX5 tyX5 tyX5_ok nmX5 5 (by decide) g545 rfl rfl rfl (Nat.le_of_ble_eq_true rfl) dX5_mapped_27 (fun H locs hP hS => ?_)
  rw [qs_qs] at hP
  replace hle : qle h (qs h q0 (.inr (5, [.long v0, .int 3, .int fc, .long cc0, .int 0, .ref sq, .null, .null, .int 0, .null]))) := qle_set oq0 hb_q0
  replace fq0 : (qs h q0 (.inr (5, [.long v0, .int 3, .int fc, .long cc0, .int 0, .ref sq, .null, .null, .int 0, .null]))) q0 = some (.inr (5, [.long v0, .int 3, .int fc, .long cc0, .int 0, .ref sq, .null, .null, .int 0, .null])) := qs_self
  replace hP : qP D N0 (qs h q0 (.inr (5, [.long v0, .int 3, .int fc, .long cc0, .int 0, .ref sq, .null, .null, .int 0, .null]))) H := hP
  refine lv_aload hx hb dX5_mapped_30 (lv_at hl 0 rfl) ?_
  exact q_aret (v := some q0) C (Or.inl ⟨_, rfl⟩) hP hS ⟨q0, rfl, oq0, rfl⟩ (by omega) dX5_mapped_32
theorem dX5_sifted_0 : decode cX5_sifted 0 = .ok (.new 8, 3) := by decide +kernel
theorem dX5_sifted_3 : decode cX5_sifted 3 = .ok (.dup, 1) := by decide +kernel
theorem dX5_sifted_4 : decode cX5_sifted 4 = .ok (.aload_n 3, 1) := by decide +kernel
theorem dX5_sifted_5 : decode cX5_sifted 5 = .ok (.getfield 7, 3) := by decide +kernel
theorem dX5_sifted_8 : decode cX5_sifted 8 = .ok (.iconst 4, 1) := by decide +kernel
theorem dX5_sifted_9 : decode cX5_sifted 9 = .ok (.invokespecial 25, 3) := by decide +kernel
theorem dX5_sifted_12 : decode cX5_sifted 12 = .ok (.astore 4, 2) := by decide +kernel
theorem dX5_sifted_14 : decode cX5_sifted 14 = .ok (.aload 4, 2) := by decide +kernel
theorem dX5_sifted_16 : decode cX5_sifted 16 = .ok (.iload_n 0, 1) := by decide +kernel
theorem dX5_sifted_17 : decode cX5_sifted 17 = .ok (.putfield 32, 3) := by decide +kernel
theorem dX5_sifted_20 : decode cX5_sifted 20 = .ok (.aload 4, 2) := by decide +kernel
theorem dX5_sifted_22 : decode cX5_sifted 22 = .ok (.lload_n 1, 1) := by decide +kernel
theorem dX5_sifted_23 : decode cX5_sifted 23 = .ok (.putfield 35, 3) := by decide +kernel
theorem dX5_sifted_26 : decode cX5_sifted 26 = .ok (.aload 4, 2) := by decide +kernel
theorem dX5_sifted_28 : decode cX5_sifted 28 = .ok (.aload_n 3, 1) := by decide +kernel
theorem dX5_sifted_29 : decode cX5_sifted 29 = .ok (.putfield 54, 3) := by decide +kernel
theorem dX5_sifted_32 : decode cX5_sifted 32 = .ok (.aload 4, 2) := by decide +kernel
theorem dX5_sifted_34 : decode cX5_sifted 34 = .ok (.areturn, 1) := by decide +kernel
set_option maxRecDepth 100000 in
set_option maxHeartbeats 4000000 in
theorem c_X5_sifted (l : Launch) (D : va_G) (cy : Nat → ClassId) (N0 : Nat) (h : qH) (fc : Int32) (cc0 : Int64) (sq : Nat) (x1 c1 : Int64) (w1 f1 n1 d1 : Int32) (s1 b1 r1 t1 : Value) (fsq : h sq = some (.inr (5, [.long x1, .int w1, .int f1, .long c1, .int n1, s1, b1, r1, .int d1, t1]))) : qC l D cy N0 yX5_sifted cX5_sifted 5 (some (.object RX5)) 2 35 1 10 [.int fc, .long cc0, .ref sq] h (fun v h' => ∃ q, v = some (.ref q) ∧ h q = none ∧ h' = qs h q (.inr (5, [.long x1, .int 4, .int fc, .long cc0, .int 0, .ref sq, .null, .null, .int 0, .null]))) (fun E h' => False) := by
  refine q_ofW (by decide) (by exact Nat.le_of_ble_eq_true rfl) ?_
  intro p e s m below meth c ls C hP hl
  have hx := C.1
  have hb := C.2.1
  have hS : va_S (qA N0) s.heap s.heap [] := va_S.rf
  have hl : lv_has ls 5 [(0, .int fc), (1, .long cc0), (3, .ref sq)] := hl
  have hle : qle h h := qle_rf
  refine q_new (ci := 5) (fs := [.long 0, .int 0, .int 0, .long 0, .int 0, .null, .null, .null, .int 0, .null]) C hP hS rfl inX5 tyX5 tyX5_ok g529 g530 g18 (fun j hj => by rcases (show j = 0 ∨ j = 1 ∨ j = 2 ∨ j = 3 ∨ j = 4 ∨ j = 5 ∨ j = 6 ∨ j = 7 ∨ j = 8 ∨ j = 9 by omega) with rfl | rfl | rfl | rfl | rfl | rfl | rfl | rfl | rfl | rfl <;> rfl) (by first | decide | omega) (by first | decide | omega) dX5_sifted_0 (fun q0 H eq0 hP hS => ?_)
  have n_q0_sq : sq ≠ q0 := qne_of eq0 fsq
  replace fsq := qle_new (o := (.inr (5, [.long 0, .int 0, .int 0, .long 0, .int 0, .null, .null, .null, .int 0, .null]))) eq0 _ _ fsq
  have hb_q0 := hle
  have oq0 := qle_none hle eq0
  replace hle := qle_tr hle (qle_new (o := (.inr (5, [.long 0, .int 0, .int 0, .long 0, .int 0, .null, .null, .null, .int 0, .null]))) eq0)
  have fq0 : (qs h q0 (.inr (5, [.long 0, .int 0, .int 0, .long 0, .int 0, .null, .null, .null, .int 0, .null]))) q0 = some (.inr (5, [.long 0, .int 0, .int 0, .long 0, .int 0, .null, .null, .null, .int 0, .null])) := qs_self
  refine lv_dup hx hb dX5_sifted_3 rfl ?_
  refine lv_aload_n hx hb dX5_sifted_4 rfl (lv_at hl 2 rfl) ?_
  refine q_get C hP fsq rfl inX5 0 (by decide) g535 rfl dX5_sifted_5 ?_
  refine lv_iconst (v := 4) hx hb dX5_sifted_8 (by decide) ?_
  refine q_callI (rest := [.ref q0]) C (c_X5_init l D cy N0 (qs h q0 (.inr (5, [.long 0, .int 0, .int 0, .long 0, .int 0, .null, .null, .null, .int 0, .null]))) q0 x1 4 fq0) kX5_init g531 g532 rfl hP hS (by first | decide | omega) hl.1 rfl (by simp [q_catrf, q_cati, q_catl, q_cata, q_catn]) (by first | decide | omega) dX5_sifted_9 (fun v hh1 H locs hq hP hS => ?_)
  obtain ⟨rfl, rfl⟩ := hq
  rw [qs_qs] at hP
  replace fsq := qs_re (o' := (.inr (5, [.long x1, .int 4, .int 0, .long 0, .int 0, .null, .null, .null, .int 0, .null]))) n_q0_sq fsq
  replace hle : qle h (qs h q0 (.inr (5, [.long x1, .int 4, .int 0, .long 0, .int 0, .null, .null, .null, .int 0, .null]))) := qle_set oq0 hb_q0
  replace fq0 : (qs h q0 (.inr (5, [.long x1, .int 4, .int 0, .long 0, .int 0, .null, .null, .null, .int 0, .null]))) q0 = some (.inr (5, [.long x1, .int 4, .int 0, .long 0, .int 0, .null, .null, .null, .int 0, .null])) := qs_self
  refine lv_astore (lv' := [(4, .ref q0), (0, .int fc), (1, .long cc0), (3, .ref sq)]) hx hb dX5_sifted_12 hl (by decide) rfl (fun ls hl => ?_)
  refine lv_aload hx hb dX5_sifted_14 (lv_at hl 0 rfl) ?_
  refine lv_iload_n hx hb dX5_sifted_16 rfl (lv_at hl 1 rfl) ?_
  refine q_put C hP hS fq0 rfl inX5 tyX5 tyX5_ok nmX5 2 (by decide) g539 rfl rfl rfl (Nat.le_of_ble_eq_true rfl) dX5_sifted_17 (fun H locs hP hS => ?_)
  rw [qs_qs] at hP
  replace fsq := qs_re (o' := (.inr (5, [.long x1, .int 4, .int fc, .long 0, .int 0, .null, .null, .null, .int 0, .null]))) n_q0_sq fsq
  replace hle : qle h (qs h q0 (.inr (5, [.long x1, .int 4, .int fc, .long 0, .int 0, .null, .null, .null, .int 0, .null]))) := qle_set oq0 hb_q0
  replace fq0 : (qs h q0 (.inr (5, [.long x1, .int 4, .int fc, .long 0, .int 0, .null, .null, .null, .int 0, .null]))) q0 = some (.inr (5, [.long x1, .int 4, .int fc, .long 0, .int 0, .null, .null, .null, .int 0, .null])) := qs_self
  replace hP : qP D N0 (qs h q0 (.inr (5, [.long x1, .int 4, .int fc, .long 0, .int 0, .null, .null, .null, .int 0, .null]))) H := hP
  refine lv_aload hx hb dX5_sifted_20 (lv_at hl 0 rfl) ?_
  refine lv_lload_n hx hb dX5_sifted_22 rfl (lv_at hl 2 rfl) ?_
  refine q_put C hP hS fq0 rfl inX5 tyX5 tyX5_ok nmX5 3 (by decide) g541 rfl rfl rfl (Nat.le_of_ble_eq_true rfl) dX5_sifted_23 (fun H locs hP hS => ?_)
  rw [qs_qs] at hP
  replace fsq := qs_re (o' := (.inr (5, [.long x1, .int 4, .int fc, .long cc0, .int 0, .null, .null, .null, .int 0, .null]))) n_q0_sq fsq
  replace hle : qle h (qs h q0 (.inr (5, [.long x1, .int 4, .int fc, .long cc0, .int 0, .null, .null, .null, .int 0, .null]))) := qle_set oq0 hb_q0
  replace fq0 : (qs h q0 (.inr (5, [.long x1, .int 4, .int fc, .long cc0, .int 0, .null, .null, .null, .int 0, .null]))) q0 = some (.inr (5, [.long x1, .int 4, .int fc, .long cc0, .int 0, .null, .null, .null, .int 0, .null])) := qs_self
  replace hP : qP D N0 (qs h q0 (.inr (5, [.long x1, .int 4, .int fc, .long cc0, .int 0, .null, .null, .null, .int 0, .null]))) H := hP
  refine lv_aload hx hb dX5_sifted_26 (lv_at hl 0 rfl) ?_
  refine lv_aload_n hx hb dX5_sifted_28 rfl (lv_at hl 3 rfl) ?_
  refine q_put C hP hS fq0 rfl inX5 tyX5 tyX5_ok nmX5 5 (by decide) g545 rfl rfl rfl (Nat.le_of_ble_eq_true rfl) dX5_sifted_29 (fun H locs hP hS => ?_)
  rw [qs_qs] at hP
  replace fsq := qs_re (o' := (.inr (5, [.long x1, .int 4, .int fc, .long cc0, .int 0, .ref sq, .null, .null, .int 0, .null]))) n_q0_sq fsq
  replace hle : qle h (qs h q0 (.inr (5, [.long x1, .int 4, .int fc, .long cc0, .int 0, .ref sq, .null, .null, .int 0, .null]))) := qle_set oq0 hb_q0
  replace fq0 : (qs h q0 (.inr (5, [.long x1, .int 4, .int fc, .long cc0, .int 0, .ref sq, .null, .null, .int 0, .null]))) q0 = some (.inr (5, [.long x1, .int 4, .int fc, .long cc0, .int 0, .ref sq, .null, .null, .int 0, .null])) := qs_self
  replace hP : qP D N0 (qs h q0 (.inr (5, [.long x1, .int 4, .int fc, .long cc0, .int 0, .ref sq, .null, .null, .int 0, .null]))) H := hP
  refine lv_aload hx hb dX5_sifted_32 (lv_at hl 0 rfl) ?_
  exact q_aret (v := some q0) C (Or.inl ⟨_, rfl⟩) hP hS ⟨q0, rfl, oq0, rfl⟩ (by omega) dX5_sifted_34
theorem dX5_finish_0 : decode cX5_finish 0 = .ok (.aload_n 0, 1) := by decide +kernel
theorem dX5_finish_1 : decode cX5_finish 1 = .ok (.aload_n 1, 1) := by decide +kernel
theorem dX5_finish_2 : decode cX5_finish 2 = .ok (.putfield 17, 3) := by decide +kernel
theorem dX5_finish_5 : decode cX5_finish 5 = .ok (.aload_n 0, 1) := by decide +kernel
theorem dX5_finish_6 : decode cX5_finish 6 = .ok (.iconst 1, 1) := by decide +kernel
theorem dX5_finish_7 : decode cX5_finish 7 = .ok (.putfield 21, 3) := by decide +kernel
theorem dX5_finish_10 : decode cX5_finish 10 = .ok (.return_, 1) := by decide +kernel
set_option maxRecDepth 100000 in
set_option maxHeartbeats 4000000 in
theorem c_X5_finish (l : Launch) (D : va_G) (cy : Nat → ClassId) (N0 : Nat) (h : qH) (pr : Option Nat) (sq : Nat) (x1 c1 : Int64) (w1 f1 n1 d1 : Int32) (s1 b1 r1 t1 : Value) (fsq : h sq = some (.inr (5, [.long x1, .int w1, .int f1, .long c1, .int n1, s1, b1, r1, .int d1, t1]))) : qC l D cy N0 yX5_finish cX5_finish 2 none 1 12 0 0 [.ref sq, va_rf pr] h (fun v h' => v = none ∧ h' = qs h sq (.inr (5, [.long x1, .int w1, .int f1, .long c1, .int n1, s1, b1, r1, .int 1, va_rf pr]))) (fun E h' => False) := by
  refine q_ofW (by decide) (by simp [lg_sl, q_catrf, q_cati, q_catl, q_cata, q_catn]) ?_
  intro p e s m below meth c ls C hP hl
  have hx := C.1
  have hb := C.2.1
  have hS : va_S (qA N0) s.heap s.heap [] := va_S.rf
  have hl : lv_has ls 2 [(0, .ref sq), (1, va_rf pr)] := by simpa [lv_args, q_catrf, q_cati, q_catl, q_cata, q_catn] using hl
  refine lv_aload_n hx hb dX5_finish_0 rfl (lv_at hl 0 rfl) ?_
  refine q_aload_n hx hb dX5_finish_1 rfl (lv_at hl 1 rfl) ?_
  refine q_put C hP hS fsq rfl inX5 tyX5 tyX5_ok nmX5 9 (by decide) g553 rfl (q_narf _) (q_firf _) (Nat.le_of_ble_eq_true rfl) dX5_finish_2 (fun H locs hP hS => ?_)
  replace fsq : (qs h sq (.inr (5, [.long x1, .int w1, .int f1, .long c1, .int n1, s1, b1, r1, .int d1, va_rf pr]))) sq = some (.inr (5, [.long x1, .int w1, .int f1, .long c1, .int n1, s1, b1, r1, .int d1, va_rf pr])) := qs_self
  replace hP : qP D N0 (qs h sq (.inr (5, [.long x1, .int w1, .int f1, .long c1, .int n1, s1, b1, r1, .int d1, va_rf pr]))) H := hP
  refine lv_aload_n hx hb dX5_finish_5 rfl (lv_at hl 0 rfl) ?_
  refine lv_iconst (v := 1) hx hb dX5_finish_6 (by decide) ?_
  refine q_put C hP hS fsq rfl inX5 tyX5 tyX5_ok nmX5 8 (by decide) g551 rfl rfl rfl (Nat.le_of_ble_eq_true rfl) dX5_finish_7 (fun H locs hP hS => ?_)
  rw [qs_qs] at hP
  replace fsq : (qs h sq (.inr (5, [.long x1, .int w1, .int f1, .long c1, .int n1, s1, b1, r1, .int 1, va_rf pr]))) sq = some (.inr (5, [.long x1, .int w1, .int f1, .long c1, .int n1, s1, b1, r1, .int 1, va_rf pr])) := qs_self
  replace hP : qP D N0 (qs h sq (.inr (5, [.long x1, .int w1, .int f1, .long c1, .int n1, s1, b1, r1, .int 1, va_rf pr]))) H := hP
  exact q_vret C hP hS ⟨rfl, rfl⟩ (by omega) dX5_finish_10
