theorem dX0_sizeOf_0 : decode cX0_sizeOf 0 = .ok (.aload_n 0, 1) := by decide +kernel
theorem dX0_sizeOf_1 : decode cX0_sizeOf 1 = .ok (.ifnonnull 7, 3) := by decide +kernel
theorem dX0_sizeOf_4 : decode cX0_sizeOf 4 = .ok (.iconst 0, 1) := by decide +kernel
theorem dX0_sizeOf_5 : decode cX0_sizeOf 5 = .ok (.goto 7, 3) := by decide +kernel
theorem dX0_sizeOf_8 : decode cX0_sizeOf 8 = .ok (.aload_n 0, 1) := by decide +kernel
theorem dX0_sizeOf_9 : decode cX0_sizeOf 9 = .ok (.getfield 27, 3) := by decide +kernel
theorem dX0_sizeOf_12 : decode cX0_sizeOf 12 = .ok (.ireturn, 1) := by decide +kernel
set_option maxRecDepth 100000 in
set_option maxHeartbeats 4000000 in
/-- null: 0; else the field -/
theorem c_X0_sizeOf (l : Launch) (D : va_G) (cy : Nat → ClassId) (N0 : Nat) (h : qH) (r : Option Nat) (t : Int32) (hr : qFi h 0 5 r t) : qC l D cy N0 yX0_sizeOf cX0_sizeOf 1 (some .int) 0 0 0 0 [va_rf r] h (fun v h' => v = some (.int t) ∧ h = h') (fun E h' => False) := by
  refine q_ofW (by decide) (by simp [lg_sl, q_catrf, q_cati, q_catl, q_cata, q_catn]) ?_
  intro p e s m below meth c ls C hP hl
  have hx := C.1
  have hb := C.2.1
  have hS : va_S (qA N0) s.heap s.heap [] := va_S.rf
  have hl : lv_has ls 1 [(0, va_rf r)] := hl
  rcases hr with ⟨rfl, rfl⟩ | ⟨a, fs, rfl, ha, hv⟩
  · refine lv_aload_nN hx hb dX0_sizeOf_0 rfl (lv_at hl 0 rfl) ?_
    refine lv_ifnonnullN hx hb dX0_sizeOf_1 ?_
    refine lv_iconst (v := 0) hx hb dX0_sizeOf_4 (by decide) ?_
    refine lv_goto (tgt := 12) hx hb dX0_sizeOf_5 (by decide) ?_
    exact q_iret C hP hS ⟨rfl, rfl⟩ (by omega) dX0_sizeOf_12
  · refine lv_aload_n hx hb dX0_sizeOf_0 rfl (lv_at hl 0 rfl) ?_
    refine lv_ifnonnull (tgt := 8) hx hb dX0_sizeOf_1 (by decide) ?_
    refine lv_aload_n hx hb dX0_sizeOf_8 rfl (lv_at hl 0 rfl) ?_
    refine q_get C hP ha rfl inX0 5 (by decide) g499 hv dX0_sizeOf_9 ?_
    exact q_iret C hP hS ⟨rfl, rfl⟩ (by omega) dX0_sizeOf_12

theorem dX0_heightOf_0 : decode cX0_heightOf 0 = .ok (.aload_n 0, 1) := by decide +kernel
theorem dX0_heightOf_1 : decode cX0_heightOf 1 = .ok (.ifnonnull 7, 3) := by decide +kernel
theorem dX0_heightOf_4 : decode cX0_heightOf 4 = .ok (.iconst 0, 1) := by decide +kernel
theorem dX0_heightOf_5 : decode cX0_heightOf 5 = .ok (.goto 7, 3) := by decide +kernel
theorem dX0_heightOf_8 : decode cX0_heightOf 8 = .ok (.aload_n 0, 1) := by decide +kernel
theorem dX0_heightOf_9 : decode cX0_heightOf 9 = .ok (.getfield 23, 3) := by decide +kernel
theorem dX0_heightOf_12 : decode cX0_heightOf 12 = .ok (.ireturn, 1) := by decide +kernel
set_option maxRecDepth 100000 in
set_option maxHeartbeats 4000000 in
/-- null: 0; else the field -/
theorem c_X0_heightOf (l : Launch) (D : va_G) (cy : Nat → ClassId) (N0 : Nat) (h : qH) (r : Option Nat) (t : Int32) (hr : qFi h 0 4 r t) : qC l D cy N0 yX0_heightOf cX0_heightOf 1 (some .int) 0 0 0 0 [va_rf r] h (fun v h' => v = some (.int t) ∧ h = h') (fun E h' => False) := by
  refine q_ofW (by decide) (by simp [lg_sl, q_catrf, q_cati, q_catl, q_cata, q_catn]) ?_
  intro p e s m below meth c ls C hP hl
  have hx := C.1
  have hb := C.2.1
  have hS : va_S (qA N0) s.heap s.heap [] := va_S.rf
  have hl : lv_has ls 1 [(0, va_rf r)] := hl
  rcases hr with ⟨rfl, rfl⟩ | ⟨a, fs, rfl, ha, hv⟩
  · refine lv_aload_nN hx hb dX0_heightOf_0 rfl (lv_at hl 0 rfl) ?_
    refine lv_ifnonnullN hx hb dX0_heightOf_1 ?_
    refine lv_iconst (v := 0) hx hb dX0_heightOf_4 (by decide) ?_
    refine lv_goto (tgt := 12) hx hb dX0_heightOf_5 (by decide) ?_
    exact q_iret C hP hS ⟨rfl, rfl⟩ (by omega) dX0_heightOf_12
  · refine lv_aload_n hx hb dX0_heightOf_0 rfl (lv_at hl 0 rfl) ?_
    refine lv_ifnonnull (tgt := 8) hx hb dX0_heightOf_1 (by decide) ?_
    refine lv_aload_n hx hb dX0_heightOf_8 rfl (lv_at hl 0 rfl) ?_
    refine q_get C hP ha rfl inX0 4 (by decide) g498 hv dX0_heightOf_9 ?_
    exact q_iret C hP hS ⟨rfl, rfl⟩ (by omega) dX0_heightOf_12

theorem dX3_totalOf_0 : decode cX3_totalOf 0 = .ok (.aload_n 0, 1) := by decide +kernel
theorem dX3_totalOf_1 : decode cX3_totalOf 1 = .ok (.ifnonnull 7, 3) := by decide +kernel
theorem dX3_totalOf_4 : decode cX3_totalOf 4 = .ok (.iconst 0, 1) := by decide +kernel
theorem dX3_totalOf_5 : decode cX3_totalOf 5 = .ok (.goto 7, 3) := by decide +kernel
theorem dX3_totalOf_8 : decode cX3_totalOf 8 = .ok (.aload_n 0, 1) := by decide +kernel
theorem dX3_totalOf_9 : decode cX3_totalOf 9 = .ok (.getfield 32, 3) := by decide +kernel
theorem dX3_totalOf_12 : decode cX3_totalOf 12 = .ok (.ireturn, 1) := by decide +kernel
set_option maxRecDepth 100000 in
set_option maxHeartbeats 4000000 in
/-- null: 0; else the field -/
theorem c_X3_totalOf (l : Launch) (D : va_G) (cy : Nat → ClassId) (N0 : Nat) (h : qH) (r : Option Nat) (t : Int32) (hr : qFi h 3 4 r t) : qC l D cy N0 yX3_totalOf cX3_totalOf 1 (some .int) 0 0 0 0 [va_rf r] h (fun v h' => v = some (.int t) ∧ h = h') (fun E h' => False) := by
  refine q_ofW (by decide) (by simp [lg_sl, q_catrf, q_cati, q_catl, q_cata, q_catn]) ?_
  intro p e s m below meth c ls C hP hl
  have hx := C.1
  have hb := C.2.1
  have hS : va_S (qA N0) s.heap s.heap [] := va_S.rf
  have hl : lv_has ls 1 [(0, va_rf r)] := hl
  rcases hr with ⟨rfl, rfl⟩ | ⟨a, fs, rfl, ha, hv⟩
  · refine lv_aload_nN hx hb dX3_totalOf_0 rfl (lv_at hl 0 rfl) ?_
    refine lv_ifnonnullN hx hb dX3_totalOf_1 ?_
    refine lv_iconst (v := 0) hx hb dX3_totalOf_4 (by decide) ?_
    refine lv_goto (tgt := 12) hx hb dX3_totalOf_5 (by decide) ?_
    exact q_iret C hP hS ⟨rfl, rfl⟩ (by omega) dX3_totalOf_12
  · refine lv_aload_n hx hb dX3_totalOf_0 rfl (lv_at hl 0 rfl) ?_
    refine lv_ifnonnull (tgt := 8) hx hb dX3_totalOf_1 (by decide) ?_
    refine lv_aload_n hx hb dX3_totalOf_8 rfl (lv_at hl 0 rfl) ?_
    refine q_get C hP ha rfl inX3 4 (by decide) g365 hv dX3_totalOf_9 ?_
    exact q_iret C hP hS ⟨rfl, rfl⟩ (by omega) dX3_totalOf_12

theorem dX4_sizeOf_0 : decode cX4_sizeOf 0 = .ok (.aload_n 0, 1) := by decide +kernel
theorem dX4_sizeOf_1 : decode cX4_sizeOf 1 = .ok (.ifnonnull 7, 3) := by decide +kernel
theorem dX4_sizeOf_4 : decode cX4_sizeOf 4 = .ok (.iconst 0, 1) := by decide +kernel
theorem dX4_sizeOf_5 : decode cX4_sizeOf 5 = .ok (.goto 7, 3) := by decide +kernel
theorem dX4_sizeOf_8 : decode cX4_sizeOf 8 = .ok (.aload_n 0, 1) := by decide +kernel
theorem dX4_sizeOf_9 : decode cX4_sizeOf 9 = .ok (.getfield 24, 3) := by decide +kernel
theorem dX4_sizeOf_12 : decode cX4_sizeOf 12 = .ok (.ireturn, 1) := by decide +kernel
set_option maxRecDepth 100000 in
set_option maxHeartbeats 4000000 in
/-- null: 0; else the field -/
theorem c_X4_sizeOf (l : Launch) (D : va_G) (cy : Nat → ClassId) (N0 : Nat) (h : qH) (r : Option Nat) (t : Int32) (hr : qFi h 4 3 r t) : qC l D cy N0 yX4_sizeOf cX4_sizeOf 1 (some .int) 0 0 0 0 [va_rf r] h (fun v h' => v = some (.int t) ∧ h = h') (fun E h' => False) := by
  refine q_ofW (by decide) (by simp [lg_sl, q_catrf, q_cati, q_catl, q_cata, q_catn]) ?_
  intro p e s m below meth c ls C hP hl
  have hx := C.1
  have hb := C.2.1
  have hS : va_S (qA N0) s.heap s.heap [] := va_S.rf
  have hl : lv_has ls 1 [(0, va_rf r)] := hl
  rcases hr with ⟨rfl, rfl⟩ | ⟨a, fs, rfl, ha, hv⟩
  · refine lv_aload_nN hx hb dX4_sizeOf_0 rfl (lv_at hl 0 rfl) ?_
    refine lv_ifnonnullN hx hb dX4_sizeOf_1 ?_
    refine lv_iconst (v := 0) hx hb dX4_sizeOf_4 (by decide) ?_
    refine lv_goto (tgt := 12) hx hb dX4_sizeOf_5 (by decide) ?_
    exact q_iret C hP hS ⟨rfl, rfl⟩ (by omega) dX4_sizeOf_12
  · refine lv_aload_n hx hb dX4_sizeOf_0 rfl (lv_at hl 0 rfl) ?_
    refine lv_ifnonnull (tgt := 8) hx hb dX4_sizeOf_1 (by decide) ?_
    refine lv_aload_n hx hb dX4_sizeOf_8 rfl (lv_at hl 0 rfl) ?_
    refine q_get C hP ha rfl inX4 3 (by decide) g453 hv dX4_sizeOf_9 ?_
    exact q_iret C hP hS ⟨rfl, rfl⟩ (by omega) dX4_sizeOf_12
