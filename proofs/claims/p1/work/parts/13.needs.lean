theorem dX6_needWithin_0 : decode cX6_needWithin 0 = .ok (.iload_n 0, 1) := by decide +kernel
theorem dX6_needWithin_1 : decode cX6_needWithin 1 = .ok (.ifCond .lt 8, 3) := by decide +kernel
theorem dX6_needWithin_4 : decode cX6_needWithin 4 = .ok (.iload_n 0, 1) := by decide +kernel
theorem dX6_needWithin_5 : decode cX6_needWithin 5 = .ok (.iload_n 1, 1) := by decide +kernel
theorem dX6_needWithin_6 : decode cX6_needWithin 6 = .ok (.if_icmp .le 14, 3) := by decide +kernel
theorem dX6_needWithin_9 : decode cX6_needWithin 9 = .ok (.new 373, 3) := by decide +kernel
theorem dX6_needWithin_12 : decode cX6_needWithin 12 = .ok (.dup, 1) := by decide +kernel
theorem dX6_needWithin_13 : decode cX6_needWithin 13 = .ok (.ldc_w 375, 3) := by decide +kernel
theorem dX6_needWithin_16 : decode cX6_needWithin 16 = .ok (.invokespecial 377, 3) := by decide +kernel
theorem dX6_needWithin_19 : decode cX6_needWithin 19 = .ok (.athrow, 1) := by decide +kernel
theorem dX6_needWithin_20 : decode cX6_needWithin 20 = .ok (.return_, 1) := by decide +kernel
set_option maxRecDepth 100000 in
set_option maxHeartbeats 4000000 in
/-- IllegalArgumentException: out of 0 .. k -/
theorem c_X6_needWithin (l : Launch) (D : va_G) (cy : Nat → ClassId) (N0 : Nat) (h : qH) (n k : Int32)  : qC l D cy N0 yX6_needWithin cX6_needWithin 2 none 6 82 1 6 [.int n, .int k] h (fun v h' => v = none ∧ h = h' ∧ ¬ n < 0 ∧ n ≤ k) (fun E h' => E = "java/lang/IllegalArgumentException" ∧ h = h' ∧ (n < 0 ∨ ¬ n ≤ k)) := by
  refine q_ofW (by decide) (by exact Nat.le_of_ble_eq_true rfl) ?_
  intro p e s m below meth c ls C hP hl
  have hx := C.1
  have hb := C.2.1
  have hS : va_S (qA N0) s.heap s.heap [] := va_S.rf
  have hl : lv_has ls 2 [(0, .int n), (1, .int k)] := hl
  refine lv_iload_n hx hb dX6_needWithin_0 rfl (lv_at hl 0 rfl) ?_
  refine lv_if_lt (tgt := 9) hx hb dX6_needWithin_1 (by decide) (fun c1 => ?_) (fun c1 => ?_)
  · exact q_throw (text := "a number is out of range") C kt_IAE (by decide) hP hS hl.1 dX6_needWithin_9 dX6_needWithin_12 dX6_needWithin_13 dX6_needWithin_16 dX6_needWithin_19 (by simp [q_catrf, q_cati, q_catl, q_cata, q_catn]) (by omega) ⟨rfl, rfl, Or.inl c1⟩
  · refine lv_iload_n hx hb dX6_needWithin_4 rfl (lv_at hl 0 rfl) ?_
    refine lv_iload_n hx hb dX6_needWithin_5 rfl (lv_at hl 1 rfl) ?_
    refine lv_icmp_le (tgt := 20) hx hb dX6_needWithin_6 (by decide) (fun c6 => ?_) (fun c6 => ?_)
    · exact q_vret C hP hS ⟨rfl, rfl, c1, c6⟩ (by omega) dX6_needWithin_20
    · exact q_throw (text := "a number is out of range") C kt_IAE (by decide) hP hS hl.1 dX6_needWithin_9 dX6_needWithin_12 dX6_needWithin_13 dX6_needWithin_16 dX6_needWithin_19 (by simp [q_catrf, q_cati, q_catl, q_cata, q_catn]) (by omega) ⟨rfl, rfl, Or.inr c6⟩

theorem dX6_needSlot_0 : decode cX6_needSlot 0 = .ok (.iload_n 0, 1) := by decide +kernel
theorem dX6_needSlot_1 : decode cX6_needSlot 1 = .ok (.bipush 23, 2) := by decide +kernel
theorem dX6_needSlot_3 : decode cX6_needSlot 3 = .ok (.invokestatic 43, 3) := by decide +kernel
theorem dX6_needSlot_6 : decode cX6_needSlot 6 = .ok (.return_, 1) := by decide +kernel
set_option maxRecDepth 100000 in
set_option maxHeartbeats 4000000 in
theorem c_X6_needSlot (l : Launch) (D : va_G) (cy : Nat → ClassId) (N0 : Nat) (h : qH) (n : Int32)  : qC l D cy N0 yX6_needSlot cX6_needSlot 1 none 7 103 1 6 [.int n] h (fun v h' => v = none ∧ h = h' ∧ qSl n) (fun E h' => E = "java/lang/IllegalArgumentException" ∧ h = h' ∧ ¬ qSl n) := by
  refine q_ofW (by decide) (by exact Nat.le_of_ble_eq_true rfl) ?_
  intro p e s m below meth c ls C hP hl
  have hx := C.1
  have hb := C.2.1
  have hS : va_S (qA N0) s.heap s.heap [] := va_S.rf
  have hl : lv_has ls 1 [(0, .int n)] := hl
  refine lv_iload_n hx hb dX6_needSlot_0 rfl (lv_at hl 0 rfl) ?_
  refine lv_bipush (v := 23) hx hb dX6_needSlot_1 (by decide) ?_
  refine q_callS (rest := []) C (c_X6_needWithin l D cy N0 (h) n 23) kX6_needWithin g107 g108 hP hS (by first | decide | omega) hl.1 rfl (by decide) (by first | decide | omega) dX6_needSlot_3 (fun q ce E h' H1 locs1 hE hP hS hc1 hc2 hc3 => by obtain ⟨rfl, rfl, hq⟩ := hE; exact q_out C hP hS hc1 hc2 hc3 ⟨rfl, rfl, fun g => hq.elim g.1 (fun q => q g.2)⟩ (by omega)) (fun v hh1 H locs hq hP hS => ?_)
  obtain ⟨rfl, rfl, g1, g2⟩ := hq
  exact q_vret C hP hS ⟨rfl, rfl, g1, g2⟩ (by omega) dX6_needSlot_6

theorem dX6_needNotNegative_0 : decode cX6_needNotNegative 0 = .ok (.iload_n 0, 1) := by decide +kernel
theorem dX6_needNotNegative_1 : decode cX6_needNotNegative 1 = .ok (.ldc_w 380, 3) := by decide +kernel
theorem dX6_needNotNegative_4 : decode cX6_needNotNegative 4 = .ok (.invokestatic 43, 3) := by decide +kernel
theorem dX6_needNotNegative_7 : decode cX6_needNotNegative 7 = .ok (.return_, 1) := by decide +kernel
set_option maxRecDepth 100000 in
set_option maxHeartbeats 4000000 in
theorem c_X6_needNotNegative (l : Launch) (D : va_G) (cy : Nat → ClassId) (N0 : Nat) (h : qH) (n : Int32)  : qC l D cy N0 yX6_needNotNegative cX6_needNotNegative 1 none 7 103 1 6 [.int n] h (fun v h' => v = none ∧ h = h' ∧ ¬ n < 0) (fun E h' => E = "java/lang/IllegalArgumentException" ∧ h = h' ∧ n < 0) := by
  refine q_ofW (by decide) (by exact Nat.le_of_ble_eq_true rfl) ?_
  intro p e s m below meth c ls C hP hl
  have hx := C.1
  have hb := C.2.1
  have hS : va_S (qA N0) s.heap s.heap [] := va_S.rf
  have hl : lv_has ls 1 [(0, .int n)] := hl
  refine lv_iload_n hx hb dX6_needNotNegative_0 rfl (lv_at hl 0 rfl) ?_
  refine lv_ldcw hx hb C.2.2.2.2.1 (C.2.2.2.2.2.1 _ g632) dX6_needNotNegative_1 ?_
  refine q_callS (rest := []) C (c_X6_needWithin l D cy N0 (h) n 2147483647) kX6_needWithin g107 g108 hP hS (by first | decide | omega) hl.1 rfl (by decide) (by first | decide | omega) dX6_needNotNegative_4 (fun q ce E h' H1 locs1 hE hP hS hc1 hc2 hc3 => by obtain ⟨rfl, rfl, hq⟩ := hE; exact q_out C hP hS hc1 hc2 hc3 ⟨rfl, rfl, hq.elim id (fun q => absurd (show n ≤ 2147483647 from Int32.le_iff_toInt_le.mpr (Int32.toInt_le n)) q)⟩ (by omega)) (fun v hh1 H locs hq hP hS => ?_)
  obtain ⟨rfl, rfl, g1, g2⟩ := hq
  exact q_vret C hP hS ⟨rfl, rfl, g1⟩ (by omega) dX6_needNotNegative_7

theorem dX6_needRoom_0 : decode cX6_needRoom 0 = .ok (.iload_n 0, 1) := by decide +kernel
theorem dX6_needRoom_1 : decode cX6_needRoom 1 = .ok (.sipush 1000, 3) := by decide +kernel
theorem dX6_needRoom_4 : decode cX6_needRoom 4 = .ok (.if_icmp .le 14, 3) := by decide +kernel
theorem dX6_needRoom_7 : decode cX6_needRoom 7 = .ok (.new 389, 3) := by decide +kernel
theorem dX6_needRoom_10 : decode cX6_needRoom 10 = .ok (.dup, 1) := by decide +kernel
theorem dX6_needRoom_11 : decode cX6_needRoom 11 = .ok (.ldc_w 391, 3) := by decide +kernel
theorem dX6_needRoom_14 : decode cX6_needRoom 14 = .ok (.invokespecial 393, 3) := by decide +kernel
theorem dX6_needRoom_17 : decode cX6_needRoom 17 = .ok (.athrow, 1) := by decide +kernel
theorem dX6_needRoom_18 : decode cX6_needRoom 18 = .ok (.return_, 1) := by decide +kernel
set_option maxRecDepth 100000 in
set_option maxHeartbeats 4000000 in
theorem c_X6_needRoom (l : Launch) (D : va_G) (cy : Nat → ClassId) (N0 : Nat) (h : qH) (n : Int32)  : qC l D cy N0 yX6_needRoom cX6_needRoom 1 none 6 82 1 6 [.int n] h (fun v h' => v = none ∧ h = h' ∧ n ≤ 1000) (fun E h' => E = "java/lang/IndexOutOfBoundsException" ∧ h = h' ∧ ¬ n ≤ 1000) := by
  refine q_ofW (by decide) (by exact Nat.le_of_ble_eq_true rfl) ?_
  intro p e s m below meth c ls C hP hl
  have hx := C.1
  have hb := C.2.1
  have hS : va_S (qA N0) s.heap s.heap [] := va_S.rf
  have hl : lv_has ls 1 [(0, .int n)] := hl
  refine lv_iload_n hx hb dX6_needRoom_0 rfl (lv_at hl 0 rfl) ?_
  refine lv_sipush (v := 1000) hx hb dX6_needRoom_1 (by decide) ?_
  refine lv_icmp_le (tgt := 18) hx hb dX6_needRoom_4 (by decide) (fun c4 => ?_) (fun c4 => ?_)
  · exact q_vret C hP hS ⟨rfl, rfl, c4⟩ (by omega) dX6_needRoom_18
  · exact q_throw (text := "more elements than a collection may have") C kt_IOB (by decide) hP hS hl.1 dX6_needRoom_7 dX6_needRoom_10 dX6_needRoom_11 dX6_needRoom_14 dX6_needRoom_17 (by simp [q_catrf, q_cati, q_catl, q_cata, q_catn]) (by omega) ⟨rfl, rfl, c4⟩

theorem dX6_needFewAlike_0 : decode cX6_needFewAlike 0 = .ok (.iload_n 0, 1) := by decide +kernel
theorem dX6_needFewAlike_1 : decode cX6_needFewAlike 1 = .ok (.bipush 16, 2) := by decide +kernel
theorem dX6_needFewAlike_3 : decode cX6_needFewAlike 3 = .ok (.if_icmp .le 14, 3) := by decide +kernel
theorem dX6_needFewAlike_6 : decode cX6_needFewAlike 6 = .ok (.new 389, 3) := by decide +kernel
theorem dX6_needFewAlike_9 : decode cX6_needFewAlike 9 = .ok (.dup, 1) := by decide +kernel
theorem dX6_needFewAlike_10 : decode cX6_needFewAlike 10 = .ok (.ldc_w 394, 3) := by decide +kernel
theorem dX6_needFewAlike_13 : decode cX6_needFewAlike 13 = .ok (.invokespecial 393, 3) := by decide +kernel
theorem dX6_needFewAlike_16 : decode cX6_needFewAlike 16 = .ok (.athrow, 1) := by decide +kernel
theorem dX6_needFewAlike_17 : decode cX6_needFewAlike 17 = .ok (.return_, 1) := by decide +kernel
set_option maxRecDepth 100000 in
set_option maxHeartbeats 4000000 in
theorem c_X6_needFewAlike (l : Launch) (D : va_G) (cy : Nat → ClassId) (N0 : Nat) (h : qH) (n : Int32)  : qC l D cy N0 yX6_needFewAlike cX6_needFewAlike 1 none 6 82 1 6 [.int n] h (fun v h' => v = none ∧ h = h' ∧ n ≤ 16) (fun E h' => E = "java/lang/IndexOutOfBoundsException" ∧ h = h' ∧ ¬ n ≤ 16) := by
  refine q_ofW (by decide) (by exact Nat.le_of_ble_eq_true rfl) ?_
  intro p e s m below meth c ls C hP hl
  have hx := C.1
  have hb := C.2.1
  have hS : va_S (qA N0) s.heap s.heap [] := va_S.rf
  have hl : lv_has ls 1 [(0, .int n)] := hl
  refine lv_iload_n hx hb dX6_needFewAlike_0 rfl (lv_at hl 0 rfl) ?_
  refine lv_bipush (v := 16) hx hb dX6_needFewAlike_1 (by decide) ?_
  refine lv_icmp_le (tgt := 17) hx hb dX6_needFewAlike_3 (by decide) (fun c3 => ?_) (fun c3 => ?_)
  · exact q_vret C hP hS ⟨rfl, rfl, c3⟩ (by omega) dX6_needFewAlike_17
  · exact q_throw (text := "more keys of one hash than there may be") C kt_IOB (by decide) hP hS hl.1 dX6_needFewAlike_6 dX6_needFewAlike_9 dX6_needFewAlike_10 dX6_needFewAlike_13 dX6_needFewAlike_16 (by simp [q_catrf, q_cati, q_catl, q_cata, q_catn]) (by omega) ⟨rfl, rfl, c3⟩

theorem dX6_deeperThan_0 : decode cX6_deeperThan 0 = .ok (.iload_n 0, 1) := by decide +kernel
theorem dX6_deeperThan_1 : decode cX6_deeperThan 1 = .ok (.bipush 100, 2) := by decide +kernel
theorem dX6_deeperThan_3 : decode cX6_deeperThan 3 = .ok (.if_icmp .lt 14, 3) := by decide +kernel
theorem dX6_deeperThan_6 : decode cX6_deeperThan 6 = .ok (.new 389, 3) := by decide +kernel
theorem dX6_deeperThan_9 : decode cX6_deeperThan 9 = .ok (.dup, 1) := by decide +kernel
theorem dX6_deeperThan_10 : decode cX6_deeperThan 10 = .ok (.ldc_w 396, 3) := by decide +kernel
theorem dX6_deeperThan_13 : decode cX6_deeperThan 13 = .ok (.invokespecial 393, 3) := by decide +kernel
theorem dX6_deeperThan_16 : decode cX6_deeperThan 16 = .ok (.athrow, 1) := by decide +kernel
theorem dX6_deeperThan_17 : decode cX6_deeperThan 17 = .ok (.iload_n 0, 1) := by decide +kernel
theorem dX6_deeperThan_18 : decode cX6_deeperThan 18 = .ok (.iconst 1, 1) := by decide +kernel
theorem dX6_deeperThan_19 : decode cX6_deeperThan 19 = .ok (.iadd, 1) := by decide +kernel
theorem dX6_deeperThan_20 : decode cX6_deeperThan 20 = .ok (.ireturn, 1) := by decide +kernel
set_option maxRecDepth 100000 in
set_option maxHeartbeats 4000000 in
theorem c_X6_deeperThan (l : Launch) (D : va_G) (cy : Nat → ClassId) (N0 : Nat) (h : qH) (n : Int32)  : qC l D cy N0 yX6_deeperThan cX6_deeperThan 1 (some .int) 6 82 1 6 [.int n] h (fun v h' => v = some (.int (n + 1)) ∧ h = h' ∧ n < 100) (fun E h' => E = "java/lang/IndexOutOfBoundsException" ∧ h = h' ∧ ¬ n < 100) := by
  refine q_ofW (by decide) (by exact Nat.le_of_ble_eq_true rfl) ?_
  intro p e s m below meth c ls C hP hl
  have hx := C.1
  have hb := C.2.1
  have hS : va_S (qA N0) s.heap s.heap [] := va_S.rf
  have hl : lv_has ls 1 [(0, .int n)] := hl
  refine lv_iload_n hx hb dX6_deeperThan_0 rfl (lv_at hl 0 rfl) ?_
  refine lv_bipush (v := 100) hx hb dX6_deeperThan_1 (by decide) ?_
  refine lv_icmp_lt (tgt := 17) hx hb dX6_deeperThan_3 (by decide) (fun c3 => ?_) (fun c3 => ?_)
  · refine lv_iload_n hx hb dX6_deeperThan_17 rfl (lv_at hl 0 rfl) ?_
    refine lv_iconst (v := 1) hx hb dX6_deeperThan_18 (by decide) ?_
    refine lv_iadd hx hb dX6_deeperThan_19 ?_
    exact q_iret C hP hS ⟨rfl, rfl, c3⟩ (by omega) dX6_deeperThan_20
  · exact q_throw (text := "deeper than a stream may be") C kt_IOB (by decide) hP hS hl.1 dX6_deeperThan_6 dX6_deeperThan_9 dX6_deeperThan_10 dX6_deeperThan_13 dX6_deeperThan_16 (by simp [q_catrf, q_cati, q_catl, q_cata, q_catn]) (by omega) ⟨rfl, rfl, c3⟩

theorem dX6_needDivisor_0 : decode cX6_needDivisor 0 = .ok (.lload_n 0, 1) := by decide +kernel
theorem dX6_needDivisor_1 : decode cX6_needDivisor 1 = .ok (.lconst 0, 1) := by decide +kernel
theorem dX6_needDivisor_2 : decode cX6_needDivisor 2 = .ok (.lcmp, 1) := by decide +kernel
theorem dX6_needDivisor_3 : decode cX6_needDivisor 3 = .ok (.ifCond .ne 14, 3) := by decide +kernel
theorem dX6_needDivisor_6 : decode cX6_needDivisor 6 = .ok (.new 482, 3) := by decide +kernel
theorem dX6_needDivisor_9 : decode cX6_needDivisor 9 = .ok (.dup, 1) := by decide +kernel
theorem dX6_needDivisor_10 : decode cX6_needDivisor 10 = .ok (.ldc_w 484, 3) := by decide +kernel
theorem dX6_needDivisor_13 : decode cX6_needDivisor 13 = .ok (.invokespecial 486, 3) := by decide +kernel
theorem dX6_needDivisor_16 : decode cX6_needDivisor 16 = .ok (.athrow, 1) := by decide +kernel
theorem dX6_needDivisor_17 : decode cX6_needDivisor 17 = .ok (.return_, 1) := by decide +kernel
set_option maxRecDepth 100000 in
set_option maxHeartbeats 4000000 in
theorem c_X6_needDivisor (l : Launch) (D : va_G) (cy : Nat → ClassId) (N0 : Nat) (h : qH) (n : Int64)  : qC l D cy N0 yX6_needDivisor cX6_needDivisor 2 none 6 82 1 6 [.long n] h (fun v h' => v = none ∧ h = h' ∧ n ≠ 0) (fun E h' => E = "java/lang/ArithmeticException" ∧ h = h' ∧ n = 0) := by
  refine q_ofW (by decide) (by exact Nat.le_of_ble_eq_true rfl) ?_
  intro p e s m below meth c ls C hP hl
  have hx := C.1
  have hb := C.2.1
  have hS : va_S (qA N0) s.heap s.heap [] := va_S.rf
  have hl : lv_has ls 2 [(0, .long n)] := hl
  refine lv_lload_n hx hb dX6_needDivisor_0 rfl (lv_at hl 0 rfl) ?_
  refine lv_lconst (v := 0) hx hb dX6_needDivisor_1 (by decide) ?_
  refine W.lcmp hx hb dX6_needDivisor_2 ?_
  refine lv_if_ne (tgt := 17) hx hb dX6_needDivisor_3 (by decide) (fun c3 => ?_) (fun c3 => ?_)
  · exact q_vret C hP hS ⟨rfl, rfl, fun q => c3 ((lg_cmp_eq _ _).mpr q)⟩ (by omega) dX6_needDivisor_17
  · exact q_throw (text := "division by 0") C kt_ARE (by decide) hP hS hl.1 dX6_needDivisor_6 dX6_needDivisor_9 dX6_needDivisor_10 dX6_needDivisor_13 dX6_needDivisor_16 (by simp [q_catrf, q_cati, q_catl, q_cata, q_catn]) (by omega) ⟨rfl, rfl, (lg_cmp_eq _ _).mp c3⟩

theorem dX2_amount_0 : decode cX2_amount 0 = .ok (.aload_n 0, 1) := by decide +kernel
theorem dX2_amount_1 : decode cX2_amount 1 = .ok (.getfield 15, 3) := by decide +kernel
theorem dX2_amount_4 : decode cX2_amount 4 = .ok (.invokestatic 37, 3) := by decide +kernel
theorem dX2_amount_7 : decode cX2_amount 7 = .ok (.aload_n 0, 1) := by decide +kernel
theorem dX2_amount_8 : decode cX2_amount 8 = .ok (.getfield 19, 3) := by decide +kernel
theorem dX2_amount_11 : decode cX2_amount 11 = .ok (.invokestatic 43, 3) := by decide +kernel
theorem dX2_amount_14 : decode cX2_amount 14 = .ok (.iadd, 1) := by decide +kernel
theorem dX2_amount_15 : decode cX2_amount 15 = .ok (.aload_n 0, 1) := by decide +kernel
theorem dX2_amount_16 : decode cX2_amount 16 = .ok (.getfield 23, 3) := by decide +kernel
theorem dX2_amount_19 : decode cX2_amount 19 = .ok (.invokestatic 49, 3) := by decide +kernel
theorem dX2_amount_22 : decode cX2_amount 22 = .ok (.iadd, 1) := by decide +kernel
theorem dX2_amount_23 : decode cX2_amount 23 = .ok (.ireturn, 1) := by decide +kernel
set_option maxRecDepth 100000 in
set_option maxHeartbeats 4000000 in
theorem c_X2_amount (l : Launch) (D : va_G) (cy : Nat → ClassId) (N0 : Nat) (h : qH) (a : Nat) (k dp t1 t2 t3 : Int32) (x1 x2 x3 x4 : Option Nat) (ha : h a = some (.inr (2, [.int k, va_rf x1, va_rf x2, va_rf x3, va_rf x4, .int dp]))) (h1 : qFi h 0 5 x1 t1) (h2 : qFi h 3 4 x2 t2) (h3 : qFi h 4 3 x3 t3) : qC l D cy N0 yX2_amount cX2_amount 1 (some .int) 1 20 0 0 [.ref a] h (fun v h' => v = some (.int (t1 + t2 + t3)) ∧ h = h') (fun E h' => False) := by
  refine q_ofW (by decide) (by exact Nat.le_of_ble_eq_true rfl) ?_
  intro p e s m below meth c ls C hP hl
  have hx := C.1
  have hb := C.2.1
  have hS : va_S (qA N0) s.heap s.heap [] := va_S.rf
  have hl : lv_has ls 1 [(0, .ref a)] := hl
  refine lv_aload_n hx hb dX2_amount_0 rfl (lv_at hl 0 rfl) ?_
  refine q_get C hP ha rfl inX2 1 (by decide) g193 rfl dX2_amount_1 ?_
  refine q_callS (rest := []) C (c_X0_sizeOf l D cy N0 (h) x1 t1 h1) kX0_sizeOf g226 g227 hP hS (by first | decide | omega) hl.1 rfl (by decide) (by first | decide | omega) dX2_amount_4 (fun q ce E h' H1 locs1 hE => hE.elim) (fun v hh1 H locs hq hP hS => ?_)
  obtain ⟨rfl, rfl⟩ := hq
  refine lv_aload_n hx hb dX2_amount_7 rfl (lv_at hl 0 rfl) ?_
  refine q_get C hP ha rfl inX2 2 (by decide) g196 rfl dX2_amount_8 ?_
  refine q_callS (rest := [.int t1]) C (c_X3_totalOf l D cy N0 (h) x2 t2 h2) kX3_totalOf g229 g230 hP hS (by first | decide | omega) hl.1 rfl (by simp [q_catrf, q_cati, q_catl, q_cata, q_catn]) (by first | decide | omega) dX2_amount_11 (fun q ce E h' H1 locs1 hE => hE.elim) (fun v hh2 H locs hq hP hS => ?_)
  obtain ⟨rfl, rfl⟩ := hq
  refine lv_iadd hx hb dX2_amount_14 ?_
  refine lv_aload_n hx hb dX2_amount_15 rfl (lv_at hl 0 rfl) ?_
  refine q_get C hP ha rfl inX2 3 (by decide) g199 rfl dX2_amount_16 ?_
  refine q_callS (rest := [.int (t1 + t2)]) C (c_X4_sizeOf l D cy N0 (h) x3 t3 h3) kX4_sizeOf g232 g233 hP hS (by first | decide | omega) hl.1 rfl (by simp [q_catrf, q_cati, q_catl, q_cata, q_catn]) (by first | decide | omega) dX2_amount_19 (fun q ce E h' H1 locs1 hE => hE.elim) (fun v hh3 H locs hq hP hS => ?_)
  obtain ⟨rfl, rfl⟩ := hq
  refine lv_iadd hx hb dX2_amount_22 ?_
  exact q_iret C hP hS ⟨rfl, rfl⟩ (by omega) dX2_amount_23
