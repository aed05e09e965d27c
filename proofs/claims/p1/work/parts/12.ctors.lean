theorem dX2_init_0 : decode cX2_init 0 = .ok (.aload_n 0, 1) := by decide +kernel
theorem dX2_init_1 : decode cX2_init 1 = .ok (.invokespecial 3, 3) := by decide +kernel
theorem dX2_init_4 : decode cX2_init 4 = .ok (.aload_n 0, 1) := by decide +kernel
theorem dX2_init_5 : decode cX2_init 5 = .ok (.iload_n 1, 1) := by decide +kernel
theorem dX2_init_6 : decode cX2_init 6 = .ok (.putfield 9, 3) := by decide +kernel
theorem dX2_init_9 : decode cX2_init 9 = .ok (.aload_n 0, 1) := by decide +kernel
theorem dX2_init_10 : decode cX2_init 10 = .ok (.aload_n 2, 1) := by decide +kernel
theorem dX2_init_11 : decode cX2_init 11 = .ok (.putfield 15, 3) := by decide +kernel
theorem dX2_init_14 : decode cX2_init 14 = .ok (.aload_n 0, 1) := by decide +kernel
theorem dX2_init_15 : decode cX2_init 15 = .ok (.aload_n 3, 1) := by decide +kernel
theorem dX2_init_16 : decode cX2_init 16 = .ok (.putfield 19, 3) := by decide +kernel
theorem dX2_init_19 : decode cX2_init 19 = .ok (.aload_n 0, 1) := by decide +kernel
theorem dX2_init_20 : decode cX2_init 20 = .ok (.aload 4, 2) := by decide +kernel
theorem dX2_init_22 : decode cX2_init 22 = .ok (.putfield 23, 3) := by decide +kernel
theorem dX2_init_25 : decode cX2_init 25 = .ok (.aload_n 0, 1) := by decide +kernel
theorem dX2_init_26 : decode cX2_init 26 = .ok (.aload 5, 2) := by decide +kernel
theorem dX2_init_28 : decode cX2_init 28 = .ok (.putfield 27, 3) := by decide +kernel
theorem dX2_init_31 : decode cX2_init 31 = .ok (.aload_n 0, 1) := by decide +kernel
theorem dX2_init_32 : decode cX2_init 32 = .ok (.iload 6, 2) := by decide +kernel
theorem dX2_init_34 : decode cX2_init 34 = .ok (.putfield 31, 3) := by decide +kernel
theorem dX2_init_37 : decode cX2_init 37 = .ok (.return_, 1) := by decide +kernel
set_option maxRecDepth 100000 in
set_option maxHeartbeats 4000000 in
/-- Held(..): the fields are laid -/
theorem c_X2_init (l : Launch) (D : va_G) (cy : Nat → ClassId) (N0 : Nat) (h : qH) (a : Nat) (k : Int32) (x1 : Option Nat) (x2 : Option Nat) (x3 : Option Nat) (x4 : Option Nat) (dp : Int32) (ha : h a = some (.inr (2, [.int 0, .null, .null, .null, .null, .int 0]))) : qC l D cy N0 yX2_init cX2_init 7 none 1 12 0 0 [.ref a, .int k, va_rf x1, va_rf x2, va_rf x3, va_rf x4, .int dp] h (fun v h' => v = none ∧ h' = qs h a (.inr (2, [.int k, va_rf x1, va_rf x2, va_rf x3, va_rf x4, .int dp]))) (fun E h' => False) := by
  refine q_ofW (by decide) (by simp [lg_sl, q_catrf, q_cati, q_catl, q_cata, q_catn]) ?_
  intro p e s m below meth c ls C hP hl
  have hx := C.1
  have hb := C.2.1
  have hS : va_S (qA N0) s.heap s.heap [] := va_S.rf
  have hl : lv_has ls 7 [(0, .ref a), (1, .int k), (2, va_rf x1), (3, va_rf x2), (4, va_rf x3), (5, va_rf x4), (6, .int dp)] := by simpa [lv_args, q_catrf, q_cati, q_catl, q_cata, q_catn] using hl
  refine lv_aload_n hx hb dX2_init_0 rfl (lv_at hl 0 rfl) ?_
  refine q_obj C g189 g28 g29 hl.1 dX2_init_1 (by simp [q_catrf, q_cati, q_catl, q_cata, q_catn]) ?_
  refine lv_aload_n hx hb dX2_init_4 rfl (lv_at hl 0 rfl) ?_
  refine lv_iload_n hx hb dX2_init_5 rfl (lv_at hl 1 rfl) ?_
  refine q_putF C hP hS ha rfl inX2 tyX2 tyX2_ok nmX2 0 (by decide) g190 rfl rfl rfl rfl rfl (Nat.le_of_ble_eq_true rfl) dX2_init_6 (fun H locs hP hS => ?_)
  replace ha : (qs h a (.inr (2, [.int k, .null, .null, .null, .null, .int 0]))) a = some (.inr (2, [.int k, .null, .null, .null, .null, .int 0])) := qs_self
  replace hP : qP D N0 (qs h a (.inr (2, [.int k, .null, .null, .null, .null, .int 0]))) H := hP
  refine lv_aload_n hx hb dX2_init_9 rfl (lv_at hl 0 rfl) ?_
  refine q_aload_n hx hb dX2_init_10 rfl (lv_at hl 2 rfl) ?_
  refine q_putF C hP hS ha rfl inX2 tyX2 tyX2_ok nmX2 1 (by decide) g193 rfl rfl rfl (q_narf _) (q_firf _) (Nat.le_of_ble_eq_true rfl) dX2_init_11 (fun H locs hP hS => ?_)
  rw [qs_qs] at hP
  replace ha : (qs h a (.inr (2, [.int k, va_rf x1, .null, .null, .null, .int 0]))) a = some (.inr (2, [.int k, va_rf x1, .null, .null, .null, .int 0])) := qs_self
  replace hP : qP D N0 (qs h a (.inr (2, [.int k, va_rf x1, .null, .null, .null, .int 0]))) H := hP
  refine lv_aload_n hx hb dX2_init_14 rfl (lv_at hl 0 rfl) ?_
  refine q_aload_n hx hb dX2_init_15 rfl (lv_at hl 3 rfl) ?_
  refine q_putF C hP hS ha rfl inX2 tyX2 tyX2_ok nmX2 2 (by decide) g196 rfl rfl rfl (q_narf _) (q_firf _) (Nat.le_of_ble_eq_true rfl) dX2_init_16 (fun H locs hP hS => ?_)
  rw [qs_qs] at hP
  replace ha : (qs h a (.inr (2, [.int k, va_rf x1, va_rf x2, .null, .null, .int 0]))) a = some (.inr (2, [.int k, va_rf x1, va_rf x2, .null, .null, .int 0])) := qs_self
  replace hP : qP D N0 (qs h a (.inr (2, [.int k, va_rf x1, va_rf x2, .null, .null, .int 0]))) H := hP
  refine lv_aload_n hx hb dX2_init_19 rfl (lv_at hl 0 rfl) ?_
  refine q_aload hx hb dX2_init_20 (lv_at hl 4 rfl) ?_
  refine q_putF C hP hS ha rfl inX2 tyX2 tyX2_ok nmX2 3 (by decide) g199 rfl rfl rfl (q_narf _) (q_firf _) (Nat.le_of_ble_eq_true rfl) dX2_init_22 (fun H locs hP hS => ?_)
  rw [qs_qs] at hP
  replace ha : (qs h a (.inr (2, [.int k, va_rf x1, va_rf x2, va_rf x3, .null, .int 0]))) a = some (.inr (2, [.int k, va_rf x1, va_rf x2, va_rf x3, .null, .int 0])) := qs_self
  replace hP : qP D N0 (qs h a (.inr (2, [.int k, va_rf x1, va_rf x2, va_rf x3, .null, .int 0]))) H := hP
  refine lv_aload_n hx hb dX2_init_25 rfl (lv_at hl 0 rfl) ?_
  refine q_aload hx hb dX2_init_26 (lv_at hl 5 rfl) ?_
  refine q_putF C hP hS ha rfl inX2 tyX2 tyX2_ok nmX2 4 (by decide) g201 rfl rfl rfl (q_narf _) (q_firf _) (Nat.le_of_ble_eq_true rfl) dX2_init_28 (fun H locs hP hS => ?_)
  rw [qs_qs] at hP
  replace ha : (qs h a (.inr (2, [.int k, va_rf x1, va_rf x2, va_rf x3, va_rf x4, .int 0]))) a = some (.inr (2, [.int k, va_rf x1, va_rf x2, va_rf x3, va_rf x4, .int 0])) := qs_self
  replace hP : qP D N0 (qs h a (.inr (2, [.int k, va_rf x1, va_rf x2, va_rf x3, va_rf x4, .int 0]))) H := hP
  refine lv_aload_n hx hb dX2_init_31 rfl (lv_at hl 0 rfl) ?_
  refine lv_iload hx hb dX2_init_32 (lv_at hl 6 rfl) ?_
  refine q_putF C hP hS ha rfl inX2 tyX2 tyX2_ok nmX2 5 (by decide) g203 rfl rfl rfl rfl rfl (Nat.le_of_ble_eq_true rfl) dX2_init_34 (fun H locs hP hS => ?_)
  rw [qs_qs] at hP
  replace ha : (qs h a (.inr (2, [.int k, va_rf x1, va_rf x2, va_rf x3, va_rf x4, .int dp]))) a = some (.inr (2, [.int k, va_rf x1, va_rf x2, va_rf x3, va_rf x4, .int dp])) := qs_self
  replace hP : qP D N0 (qs h a (.inr (2, [.int k, va_rf x1, va_rf x2, va_rf x3, va_rf x4, .int dp]))) H := hP
  exact q_vret C hP hS ⟨rfl, rfl⟩ (by omega) dX2_init_37

theorem dX5_init_0 : decode cX5_init 0 = .ok (.aload_n 0, 1) := by decide +kernel
theorem dX5_init_1 : decode cX5_init 1 = .ok (.invokespecial 1, 3) := by decide +kernel
theorem dX5_init_4 : decode cX5_init 4 = .ok (.aload_n 0, 1) := by decide +kernel
theorem dX5_init_5 : decode cX5_init 5 = .ok (.lload_n 1, 1) := by decide +kernel
theorem dX5_init_6 : decode cX5_init 6 = .ok (.putfield 7, 3) := by decide +kernel
theorem dX5_init_9 : decode cX5_init 9 = .ok (.aload_n 0, 1) := by decide +kernel
theorem dX5_init_10 : decode cX5_init 10 = .ok (.iload_n 3, 1) := by decide +kernel
theorem dX5_init_11 : decode cX5_init 11 = .ok (.putfield 13, 3) := by decide +kernel
theorem dX5_init_14 : decode cX5_init 14 = .ok (.return_, 1) := by decide +kernel
set_option maxRecDepth 100000 in
set_option maxHeartbeats 4000000 in
/-- Stream(first, way) -/
theorem c_X5_init (l : Launch) (D : va_G) (cy : Nat → ClassId) (N0 : Nat) (h : qH) (a : Nat) (k : Int64) (wy : Int32) (ha : h a = some (.inr (5, [.long 0, .int 0, .int 0, .long 0, .int 0, .null, .null, .null, .int 0, .null]))) : qC l D cy N0 yX5_init cX5_init 4 none 1 12 0 0 [.ref a, .long k, .int wy] h (fun v h' => v = none ∧ h' = qs h a (.inr (5, [.long k, .int wy, .int 0, .long 0, .int 0, .null, .null, .null, .int 0, .null]))) (fun E h' => False) := by
  refine q_ofW (by decide) (by exact Nat.le_of_ble_eq_true rfl) ?_
  intro p e s m below meth c ls C hP hl
  have hx := C.1
  have hb := C.2.1
  have hS : va_S (qA N0) s.heap s.heap [] := va_S.rf
  have hl : lv_has ls 4 [(0, .ref a), (1, .long k), (3, .int wy)] := hl
  refine lv_aload_n hx hb dX5_init_0 rfl (lv_at hl 0 rfl) ?_
  refine q_obj C g534 g28 g29 hl.1 dX5_init_1 (by simp [q_catrf, q_cati, q_catl, q_cata, q_catn]) ?_
  refine lv_aload_n hx hb dX5_init_4 rfl (lv_at hl 0 rfl) ?_
  refine lv_lload_n hx hb dX5_init_5 rfl (lv_at hl 1 rfl) ?_
  refine q_putF C hP hS ha rfl inX5 tyX5 tyX5_ok nmX5 0 (by decide) g535 rfl rfl rfl rfl rfl (Nat.le_of_ble_eq_true rfl) dX5_init_6 (fun H locs hP hS => ?_)
  replace ha : (qs h a (.inr (5, [.long k, .int 0, .int 0, .long 0, .int 0, .null, .null, .null, .int 0, .null]))) a = some (.inr (5, [.long k, .int 0, .int 0, .long 0, .int 0, .null, .null, .null, .int 0, .null])) := qs_self
  replace hP : qP D N0 (qs h a (.inr (5, [.long k, .int 0, .int 0, .long 0, .int 0, .null, .null, .null, .int 0, .null]))) H := hP
  refine lv_aload_n hx hb dX5_init_9 rfl (lv_at hl 0 rfl) ?_
  refine lv_iload_n hx hb dX5_init_10 rfl (lv_at hl 2 rfl) ?_
  refine q_putF C hP hS ha rfl inX5 tyX5 tyX5_ok nmX5 1 (by decide) g537 rfl rfl rfl rfl rfl (Nat.le_of_ble_eq_true rfl) dX5_init_11 (fun H locs hP hS => ?_)
  rw [qs_qs] at hP
  replace ha : (qs h a (.inr (5, [.long k, .int wy, .int 0, .long 0, .int 0, .null, .null, .null, .int 0, .null]))) a = some (.inr (5, [.long k, .int wy, .int 0, .long 0, .int 0, .null, .null, .null, .int 0, .null])) := qs_self
  replace hP : qP D N0 (qs h a (.inr (5, [.long k, .int wy, .int 0, .long 0, .int 0, .null, .null, .null, .int 0, .null]))) H := hP
  exact q_vret C hP hS ⟨rfl, rfl⟩ (by omega) dX5_init_14

theorem dX2_emptyOf_0 : decode cX2_emptyOf 0 = .ok (.new 10, 3) := by decide +kernel
theorem dX2_emptyOf_3 : decode cX2_emptyOf 3 = .ok (.dup, 1) := by decide +kernel
theorem dX2_emptyOf_4 : decode cX2_emptyOf 4 = .ok (.iload_n 0, 1) := by decide +kernel
theorem dX2_emptyOf_5 : decode cX2_emptyOf 5 = .ok (.aconst_null, 1) := by decide +kernel
theorem dX2_emptyOf_6 : decode cX2_emptyOf 6 = .ok (.aconst_null, 1) := by decide +kernel
theorem dX2_emptyOf_7 : decode cX2_emptyOf 7 = .ok (.aconst_null, 1) := by decide +kernel
theorem dX2_emptyOf_8 : decode cX2_emptyOf 8 = .ok (.aconst_null, 1) := by decide +kernel
theorem dX2_emptyOf_9 : decode cX2_emptyOf 9 = .ok (.iconst 0, 1) := by decide +kernel
theorem dX2_emptyOf_10 : decode cX2_emptyOf 10 = .ok (.invokespecial 34, 3) := by decide +kernel
theorem dX2_emptyOf_13 : decode cX2_emptyOf 13 = .ok (.areturn, 1) := by decide +kernel
set_option maxRecDepth 100000 in
set_option maxHeartbeats 4000000 in
theorem c_X2_emptyOf (l : Launch) (D : va_G) (cy : Nat → ClassId) (N0 : Nat) (h : qH) (k : Int32)  : qC l D cy N0 yX2_emptyOf cX2_emptyOf 1 (some (.object RX2)) 2 38 1 6 [.int k] h (fun v h' => ∃ q, v = some (.ref q) ∧ h q = none ∧ h' = qs h q (.inr (2, [.int k, .null, .null, .null, .null, .int 0]))) (fun E h' => False) := by
  refine q_ofW (by decide) (by exact Nat.le_of_ble_eq_true rfl) ?_
  intro p e s m below meth c ls C hP hl
  have hx := C.1
  have hb := C.2.1
  have hS : va_S (qA N0) s.heap s.heap [] := va_S.rf
  have hl : lv_has ls 1 [(0, .int k)] := hl
  have hle : qle h h := qle_rf
  refine q_new (ci := 2) (fs := [.int 0, .null, .null, .null, .null, .int 0]) C hP hS rfl inX2 tyX2 tyX2_ok g184 g185 g10 (fun j hj => by rcases (show j = 0 ∨ j = 1 ∨ j = 2 ∨ j = 3 ∨ j = 4 ∨ j = 5 by omega) with rfl | rfl | rfl | rfl | rfl | rfl <;> rfl) (by first | decide | omega) (by first | decide | omega) dX2_emptyOf_0 (fun q0 H eq0 hP hS => ?_)
  have hb_q0 := hle
  have oq0 := qle_none hle eq0
  replace hle := qle_tr hle (qle_new (o := (.inr (2, [.int 0, .null, .null, .null, .null, .int 0]))) eq0)
  have fq0 : (qs h q0 (.inr (2, [.int 0, .null, .null, .null, .null, .int 0]))) q0 = some (.inr (2, [.int 0, .null, .null, .null, .null, .int 0])) := qs_self
  refine lv_dup hx hb dX2_emptyOf_3 rfl ?_
  refine lv_iload_n hx hb dX2_emptyOf_4 rfl (lv_at hl 0 rfl) ?_
  refine lv_null hx hb dX2_emptyOf_5 ?_
  refine lv_null hx hb dX2_emptyOf_6 ?_
  refine lv_null hx hb dX2_emptyOf_7 ?_
  refine lv_null hx hb dX2_emptyOf_8 ?_
  refine lv_iconst (v := 0) hx hb dX2_emptyOf_9 (by decide) ?_
  refine q_callI (rest := [.ref q0]) C (c_X2_init l D cy N0 (qs h q0 (.inr (2, [.int 0, .null, .null, .null, .null, .int 0]))) q0 k none none none none 0 fq0) kX2_init g186 g187 rfl hP hS (by first | decide | omega) hl.1 rfl (by simp [q_catrf, q_cati, q_catl, q_cata, q_catn]) (by first | decide | omega) dX2_emptyOf_10 (fun v hh1 H locs hq hP hS => ?_)
  obtain ⟨rfl, rfl⟩ := hq
  rw [qs_qs] at hP
  replace hle : qle h (qs h q0 (.inr (2, [.int k, .null, .null, .null, .null, .int 0]))) := qle_set oq0 hb_q0
  replace fq0 : (qs h q0 (.inr (2, [.int k, .null, .null, .null, .null, .int 0]))) q0 = some (.inr (2, [.int k, .null, .null, .null, .null, .int 0])) := qs_self
  exact q_aret (v := some q0) C (Or.inl ⟨_, rfl⟩) hP hS ⟨q0, rfl, oq0, rfl⟩ (by omega) dX2_emptyOf_13

theorem dX2_ofTree_0 : decode cX2_ofTree 0 = .ok (.new 10, 3) := by decide +kernel
theorem dX2_ofTree_3 : decode cX2_ofTree 3 = .ok (.dup, 1) := by decide +kernel
theorem dX2_ofTree_4 : decode cX2_ofTree 4 = .ok (.iload_n 0, 1) := by decide +kernel
theorem dX2_ofTree_5 : decode cX2_ofTree 5 = .ok (.aload_n 1, 1) := by decide +kernel
theorem dX2_ofTree_6 : decode cX2_ofTree 6 = .ok (.aconst_null, 1) := by decide +kernel
theorem dX2_ofTree_7 : decode cX2_ofTree 7 = .ok (.aconst_null, 1) := by decide +kernel
theorem dX2_ofTree_8 : decode cX2_ofTree 8 = .ok (.aconst_null, 1) := by decide +kernel
theorem dX2_ofTree_9 : decode cX2_ofTree 9 = .ok (.iconst 0, 1) := by decide +kernel
theorem dX2_ofTree_10 : decode cX2_ofTree 10 = .ok (.invokespecial 34, 3) := by decide +kernel
theorem dX2_ofTree_13 : decode cX2_ofTree 13 = .ok (.areturn, 1) := by decide +kernel
set_option maxRecDepth 100000 in
set_option maxHeartbeats 4000000 in
theorem c_X2_ofTree (l : Launch) (D : va_G) (cy : Nat → ClassId) (N0 : Nat) (h : qH) (k : Int32) (x : Option Nat)  : qC l D cy N0 yX2_ofTree cX2_ofTree 2 (some (.object RX2)) 2 38 1 6 [.int k, va_rf x] h (fun v h' => ∃ q, v = some (.ref q) ∧ h q = none ∧ h' = qs h q (.inr (2, [.int k, va_rf x, .null, .null, .null, .int 0]))) (fun E h' => False) := by
  refine q_ofW (by decide) (by simp [lg_sl, q_catrf, q_cati, q_catl, q_cata, q_catn]) ?_
  intro p e s m below meth c ls C hP hl
  have hx := C.1
  have hb := C.2.1
  have hS : va_S (qA N0) s.heap s.heap [] := va_S.rf
  have hl : lv_has ls 2 [(0, .int k), (1, va_rf x)] := by simpa [lv_args, q_catrf, q_cati, q_catl, q_cata, q_catn] using hl
  have hle : qle h h := qle_rf
  refine q_new (ci := 2) (fs := [.int 0, .null, .null, .null, .null, .int 0]) C hP hS rfl inX2 tyX2 tyX2_ok g184 g185 g10 (fun j hj => by rcases (show j = 0 ∨ j = 1 ∨ j = 2 ∨ j = 3 ∨ j = 4 ∨ j = 5 by omega) with rfl | rfl | rfl | rfl | rfl | rfl <;> rfl) (by first | decide | omega) (by first | decide | omega) dX2_ofTree_0 (fun q0 H eq0 hP hS => ?_)
  have hb_q0 := hle
  have oq0 := qle_none hle eq0
  replace hle := qle_tr hle (qle_new (o := (.inr (2, [.int 0, .null, .null, .null, .null, .int 0]))) eq0)
  have fq0 : (qs h q0 (.inr (2, [.int 0, .null, .null, .null, .null, .int 0]))) q0 = some (.inr (2, [.int 0, .null, .null, .null, .null, .int 0])) := qs_self
  refine lv_dup hx hb dX2_ofTree_3 rfl ?_
  refine lv_iload_n hx hb dX2_ofTree_4 rfl (lv_at hl 0 rfl) ?_
  refine q_aload_n hx hb dX2_ofTree_5 rfl (lv_at hl 1 rfl) ?_
  refine lv_null hx hb dX2_ofTree_6 ?_
  refine lv_null hx hb dX2_ofTree_7 ?_
  refine lv_null hx hb dX2_ofTree_8 ?_
  refine lv_iconst (v := 0) hx hb dX2_ofTree_9 (by decide) ?_
  refine q_callI (rest := [.ref q0]) C (c_X2_init l D cy N0 (qs h q0 (.inr (2, [.int 0, .null, .null, .null, .null, .int 0]))) q0 k x none none none 0 fq0) kX2_init g186 g187 rfl hP hS (by first | decide | omega) hl.1 rfl (by simp [q_catrf, q_cati, q_catl, q_cata, q_catn]) (by first | decide | omega) dX2_ofTree_10 (fun v hh1 H locs hq hP hS => ?_)
  obtain ⟨rfl, rfl⟩ := hq
  rw [qs_qs] at hP
  replace hle : qle h (qs h q0 (.inr (2, [.int k, va_rf x, .null, .null, .null, .int 0]))) := qle_set oq0 hb_q0
  replace fq0 : (qs h q0 (.inr (2, [.int k, va_rf x, .null, .null, .null, .int 0]))) q0 = some (.inr (2, [.int k, va_rf x, .null, .null, .null, .int 0])) := qs_self
  exact q_aret (v := some q0) C (Or.inl ⟨_, rfl⟩) hP hS ⟨q0, rfl, oq0, rfl⟩ (by omega) dX2_ofTree_13

theorem dX2_ofTrie_0 : decode cX2_ofTrie 0 = .ok (.new 10, 3) := by decide +kernel
theorem dX2_ofTrie_3 : decode cX2_ofTrie 3 = .ok (.dup, 1) := by decide +kernel
theorem dX2_ofTrie_4 : decode cX2_ofTrie 4 = .ok (.iload_n 0, 1) := by decide +kernel
theorem dX2_ofTrie_5 : decode cX2_ofTrie 5 = .ok (.aconst_null, 1) := by decide +kernel
theorem dX2_ofTrie_6 : decode cX2_ofTrie 6 = .ok (.aload_n 1, 1) := by decide +kernel
theorem dX2_ofTrie_7 : decode cX2_ofTrie 7 = .ok (.aconst_null, 1) := by decide +kernel
theorem dX2_ofTrie_8 : decode cX2_ofTrie 8 = .ok (.aconst_null, 1) := by decide +kernel
theorem dX2_ofTrie_9 : decode cX2_ofTrie 9 = .ok (.iconst 0, 1) := by decide +kernel
theorem dX2_ofTrie_10 : decode cX2_ofTrie 10 = .ok (.invokespecial 34, 3) := by decide +kernel
theorem dX2_ofTrie_13 : decode cX2_ofTrie 13 = .ok (.areturn, 1) := by decide +kernel
set_option maxRecDepth 100000 in
set_option maxHeartbeats 4000000 in
theorem c_X2_ofTrie (l : Launch) (D : va_G) (cy : Nat → ClassId) (N0 : Nat) (h : qH) (k : Int32) (x : Option Nat)  : qC l D cy N0 yX2_ofTrie cX2_ofTrie 2 (some (.object RX2)) 2 38 1 6 [.int k, va_rf x] h (fun v h' => ∃ q, v = some (.ref q) ∧ h q = none ∧ h' = qs h q (.inr (2, [.int k, .null, va_rf x, .null, .null, .int 0]))) (fun E h' => False) := by
  refine q_ofW (by decide) (by simp [lg_sl, q_catrf, q_cati, q_catl, q_cata, q_catn]) ?_
  intro p e s m below meth c ls C hP hl
  have hx := C.1
  have hb := C.2.1
  have hS : va_S (qA N0) s.heap s.heap [] := va_S.rf
  have hl : lv_has ls 2 [(0, .int k), (1, va_rf x)] := by simpa [lv_args, q_catrf, q_cati, q_catl, q_cata, q_catn] using hl
  have hle : qle h h := qle_rf
  refine q_new (ci := 2) (fs := [.int 0, .null, .null, .null, .null, .int 0]) C hP hS rfl inX2 tyX2 tyX2_ok g184 g185 g10 (fun j hj => by rcases (show j = 0 ∨ j = 1 ∨ j = 2 ∨ j = 3 ∨ j = 4 ∨ j = 5 by omega) with rfl | rfl | rfl | rfl | rfl | rfl <;> rfl) (by first | decide | omega) (by first | decide | omega) dX2_ofTrie_0 (fun q0 H eq0 hP hS => ?_)
  have hb_q0 := hle
  have oq0 := qle_none hle eq0
  replace hle := qle_tr hle (qle_new (o := (.inr (2, [.int 0, .null, .null, .null, .null, .int 0]))) eq0)
  have fq0 : (qs h q0 (.inr (2, [.int 0, .null, .null, .null, .null, .int 0]))) q0 = some (.inr (2, [.int 0, .null, .null, .null, .null, .int 0])) := qs_self
  refine lv_dup hx hb dX2_ofTrie_3 rfl ?_
  refine lv_iload_n hx hb dX2_ofTrie_4 rfl (lv_at hl 0 rfl) ?_
  refine lv_null hx hb dX2_ofTrie_5 ?_
  refine q_aload_n hx hb dX2_ofTrie_6 rfl (lv_at hl 1 rfl) ?_
  refine lv_null hx hb dX2_ofTrie_7 ?_
  refine lv_null hx hb dX2_ofTrie_8 ?_
  refine lv_iconst (v := 0) hx hb dX2_ofTrie_9 (by decide) ?_
  refine q_callI (rest := [.ref q0]) C (c_X2_init l D cy N0 (qs h q0 (.inr (2, [.int 0, .null, .null, .null, .null, .int 0]))) q0 k none x none none 0 fq0) kX2_init g186 g187 rfl hP hS (by first | decide | omega) hl.1 rfl (by simp [q_catrf, q_cati, q_catl, q_cata, q_catn]) (by first | decide | omega) dX2_ofTrie_10 (fun v hh1 H locs hq hP hS => ?_)
  obtain ⟨rfl, rfl⟩ := hq
  rw [qs_qs] at hP
  replace hle : qle h (qs h q0 (.inr (2, [.int k, .null, va_rf x, .null, .null, .int 0]))) := qle_set oq0 hb_q0
  replace fq0 : (qs h q0 (.inr (2, [.int k, .null, va_rf x, .null, .null, .int 0]))) q0 = some (.inr (2, [.int k, .null, va_rf x, .null, .null, .int 0])) := qs_self
  exact q_aret (v := some q0) C (Or.inl ⟨_, rfl⟩) hP hS ⟨q0, rfl, oq0, rfl⟩ (by omega) dX2_ofTrie_13

theorem dX2_ofPile_0 : decode cX2_ofPile 0 = .ok (.new 10, 3) := by decide +kernel
theorem dX2_ofPile_3 : decode cX2_ofPile 3 = .ok (.dup, 1) := by decide +kernel
theorem dX2_ofPile_4 : decode cX2_ofPile 4 = .ok (.iconst 5, 1) := by decide +kernel
theorem dX2_ofPile_5 : decode cX2_ofPile 5 = .ok (.aconst_null, 1) := by decide +kernel
theorem dX2_ofPile_6 : decode cX2_ofPile 6 = .ok (.aconst_null, 1) := by decide +kernel
theorem dX2_ofPile_7 : decode cX2_ofPile 7 = .ok (.aload_n 0, 1) := by decide +kernel
theorem dX2_ofPile_8 : decode cX2_ofPile 8 = .ok (.aconst_null, 1) := by decide +kernel
theorem dX2_ofPile_9 : decode cX2_ofPile 9 = .ok (.iconst 0, 1) := by decide +kernel
theorem dX2_ofPile_10 : decode cX2_ofPile 10 = .ok (.invokespecial 34, 3) := by decide +kernel
theorem dX2_ofPile_13 : decode cX2_ofPile 13 = .ok (.areturn, 1) := by decide +kernel
set_option maxRecDepth 100000 in
set_option maxHeartbeats 4000000 in
theorem c_X2_ofPile (l : Launch) (D : va_G) (cy : Nat → ClassId) (N0 : Nat) (h : qH) (x : Option Nat)  : qC l D cy N0 yX2_ofPile cX2_ofPile 1 (some (.object RX2)) 2 38 1 6 [va_rf x] h (fun v h' => ∃ q, v = some (.ref q) ∧ h q = none ∧ h' = qs h q (.inr (2, [.int 5, .null, .null, va_rf x, .null, .int 0]))) (fun E h' => False) := by
  refine q_ofW (by decide) (by simp [lg_sl, q_catrf, q_cati, q_catl, q_cata, q_catn]) ?_
  intro p e s m below meth c ls C hP hl
  have hx := C.1
  have hb := C.2.1
  have hS : va_S (qA N0) s.heap s.heap [] := va_S.rf
  have hl : lv_has ls 1 [(0, va_rf x)] := hl
  have hle : qle h h := qle_rf
  refine q_new (ci := 2) (fs := [.int 0, .null, .null, .null, .null, .int 0]) C hP hS rfl inX2 tyX2 tyX2_ok g184 g185 g10 (fun j hj => by rcases (show j = 0 ∨ j = 1 ∨ j = 2 ∨ j = 3 ∨ j = 4 ∨ j = 5 by omega) with rfl | rfl | rfl | rfl | rfl | rfl <;> rfl) (by first | decide | omega) (by first | decide | omega) dX2_ofPile_0 (fun q0 H eq0 hP hS => ?_)
  have hb_q0 := hle
  have oq0 := qle_none hle eq0
  replace hle := qle_tr hle (qle_new (o := (.inr (2, [.int 0, .null, .null, .null, .null, .int 0]))) eq0)
  have fq0 : (qs h q0 (.inr (2, [.int 0, .null, .null, .null, .null, .int 0]))) q0 = some (.inr (2, [.int 0, .null, .null, .null, .null, .int 0])) := qs_self
  refine lv_dup hx hb dX2_ofPile_3 rfl ?_
  refine lv_iconst (v := 5) hx hb dX2_ofPile_4 (by decide) ?_
  refine lv_null hx hb dX2_ofPile_5 ?_
  refine lv_null hx hb dX2_ofPile_6 ?_
  refine q_aload_n hx hb dX2_ofPile_7 rfl (lv_at hl 0 rfl) ?_
  refine lv_null hx hb dX2_ofPile_8 ?_
  refine lv_iconst (v := 0) hx hb dX2_ofPile_9 (by decide) ?_
  refine q_callI (rest := [.ref q0]) C (c_X2_init l D cy N0 (qs h q0 (.inr (2, [.int 0, .null, .null, .null, .null, .int 0]))) q0 5 none none x none 0 fq0) kX2_init g186 g187 rfl hP hS (by first | decide | omega) hl.1 rfl (by simp [q_catrf, q_cati, q_catl, q_cata, q_catn]) (by first | decide | omega) dX2_ofPile_10 (fun v hh1 H locs hq hP hS => ?_)
  obtain ⟨rfl, rfl⟩ := hq
  rw [qs_qs] at hP
  replace hle : qle h (qs h q0 (.inr (2, [.int 5, .null, .null, va_rf x, .null, .int 0]))) := qle_set oq0 hb_q0
  replace fq0 : (qs h q0 (.inr (2, [.int 5, .null, .null, va_rf x, .null, .int 0]))) q0 = some (.inr (2, [.int 5, .null, .null, va_rf x, .null, .int 0])) := qs_self
  exact q_aret (v := some q0) C (Or.inl ⟨_, rfl⟩) hP hS ⟨q0, rfl, oq0, rfl⟩ (by omega) dX2_ofPile_13

theorem dX2_ofStream_0 : decode cX2_ofStream 0 = .ok (.new 10, 3) := by decide +kernel
theorem dX2_ofStream_3 : decode cX2_ofStream 3 = .ok (.dup, 1) := by decide +kernel
theorem dX2_ofStream_4 : decode cX2_ofStream 4 = .ok (.bipush 6, 2) := by decide +kernel
theorem dX2_ofStream_6 : decode cX2_ofStream 6 = .ok (.aconst_null, 1) := by decide +kernel
theorem dX2_ofStream_7 : decode cX2_ofStream 7 = .ok (.aconst_null, 1) := by decide +kernel
theorem dX2_ofStream_8 : decode cX2_ofStream 8 = .ok (.aconst_null, 1) := by decide +kernel
theorem dX2_ofStream_9 : decode cX2_ofStream 9 = .ok (.aload_n 0, 1) := by decide +kernel
theorem dX2_ofStream_10 : decode cX2_ofStream 10 = .ok (.iload_n 1, 1) := by decide +kernel
theorem dX2_ofStream_11 : decode cX2_ofStream 11 = .ok (.invokespecial 34, 3) := by decide +kernel
theorem dX2_ofStream_14 : decode cX2_ofStream 14 = .ok (.areturn, 1) := by decide +kernel
set_option maxRecDepth 100000 in
set_option maxHeartbeats 4000000 in
theorem c_X2_ofStream (l : Launch) (D : va_G) (cy : Nat → ClassId) (N0 : Nat) (h : qH) (x : Option Nat) (dp : Int32)  : qC l D cy N0 yX2_ofStream cX2_ofStream 2 (some (.object RX2)) 2 38 1 6 [va_rf x, .int dp] h (fun v h' => ∃ q, v = some (.ref q) ∧ h q = none ∧ h' = qs h q (.inr (2, [.int 6, .null, .null, .null, va_rf x, .int dp]))) (fun E h' => False) := by
  refine q_ofW (by decide) (by simp [lg_sl, q_catrf, q_cati, q_catl, q_cata, q_catn]) ?_
  intro p e s m below meth c ls C hP hl
  have hx := C.1
  have hb := C.2.1
  have hS : va_S (qA N0) s.heap s.heap [] := va_S.rf
  have hl : lv_has ls 2 [(0, va_rf x), (1, .int dp)] := by simpa [lv_args, q_catrf, q_cati, q_catl, q_cata, q_catn] using hl
  have hle : qle h h := qle_rf
  refine q_new (ci := 2) (fs := [.int 0, .null, .null, .null, .null, .int 0]) C hP hS rfl inX2 tyX2 tyX2_ok g184 g185 g10 (fun j hj => by rcases (show j = 0 ∨ j = 1 ∨ j = 2 ∨ j = 3 ∨ j = 4 ∨ j = 5 by omega) with rfl | rfl | rfl | rfl | rfl | rfl <;> rfl) (by first | decide | omega) (by first | decide | omega) dX2_ofStream_0 (fun q0 H eq0 hP hS => ?_)
  have hb_q0 := hle
  have oq0 := qle_none hle eq0
  replace hle := qle_tr hle (qle_new (o := (.inr (2, [.int 0, .null, .null, .null, .null, .int 0]))) eq0)
  have fq0 : (qs h q0 (.inr (2, [.int 0, .null, .null, .null, .null, .int 0]))) q0 = some (.inr (2, [.int 0, .null, .null, .null, .null, .int 0])) := qs_self
  refine lv_dup hx hb dX2_ofStream_3 rfl ?_
  refine lv_bipush (v := 6) hx hb dX2_ofStream_4 (by decide) ?_
  refine lv_null hx hb dX2_ofStream_6 ?_
  refine lv_null hx hb dX2_ofStream_7 ?_
  refine lv_null hx hb dX2_ofStream_8 ?_
  refine q_aload_n hx hb dX2_ofStream_9 rfl (lv_at hl 0 rfl) ?_
  refine lv_iload_n hx hb dX2_ofStream_10 rfl (lv_at hl 1 rfl) ?_
  refine q_callI (rest := [.ref q0]) C (c_X2_init l D cy N0 (qs h q0 (.inr (2, [.int 0, .null, .null, .null, .null, .int 0]))) q0 6 none none none x dp fq0) kX2_init g186 g187 rfl hP hS (by first | decide | omega) hl.1 rfl (by simp [q_catrf, q_cati, q_catl, q_cata, q_catn]) (by first | decide | omega) dX2_ofStream_11 (fun v hh1 H locs hq hP hS => ?_)
  obtain ⟨rfl, rfl⟩ := hq
  rw [qs_qs] at hP
  replace hle : qle h (qs h q0 (.inr (2, [.int 6, .null, .null, .null, va_rf x, .int dp]))) := qle_set oq0 hb_q0
  replace fq0 : (qs h q0 (.inr (2, [.int 6, .null, .null, .null, va_rf x, .int dp]))) q0 = some (.inr (2, [.int 6, .null, .null, .null, va_rf x, .int dp])) := qs_self
  exact q_aret (v := some q0) C (Or.inl ⟨_, rfl⟩) hP hS ⟨q0, rfl, oq0, rfl⟩ (by omega) dX2_ofStream_14
