theorem tq_bit {m : Int32} {k : Int64} {d : Nat} (hd : d < 7) : nI 1 <<< ((((k.toInt32 &&& m).toUInt32 >>> ((nI (5 * d)).toUInt32 &&& Int32.toUInt32 31)).toInt32 &&& nI 31) &&& 31) = nI (2 ^ thN m d k) := by
  have e0 : k.toInt32 &&& m = nI (thH m k) := nI_any _
  rw [e0, nI_ushr thH_lt (by omega), nI_and, show (31 : Nat) = 2 ^ 5 - 1 by decide, Nat.and_two_pow_sub_one_eq_mod, show (2 : Nat) ^ (5 * d) = 32 ^ d from by rw [Nat.pow_mul]]
  exact nI_shl thN_lt
/-- the bit that stands for a key at a level -/
def thB (m : Int32) (d : Nat) (k : Int64) : Nat := if d < 7 then 2 ^ thN m d k else 0
theorem dX3_hashOf_0 : decode cX3_hashOf 0 = .ok (.lload_n 0, 1) := by decide +kernel
theorem dX3_hashOf_1 : decode cX3_hashOf 1 = .ok (.l2i, 1) := by decide +kernel
theorem dX3_hashOf_2 : decode cX3_hashOf 2 = .ok (.iload_n 2, 1) := by decide +kernel
theorem dX3_hashOf_3 : decode cX3_hashOf 3 = .ok (.iand, 1) := by decide +kernel
theorem dX3_hashOf_4 : decode cX3_hashOf 4 = .ok (.ireturn, 1) := by decide +kernel
set_option maxRecDepth 100000 in
set_option maxHeartbeats 4000000 in
theorem c_X3_hashOf (l : Launch) (D : va_G) (cy : Nat → ClassId) (N0 : Nat) (h : qH) (k : Int64) (m9 : Int32) : qC l D cy N0 yX3_hashOf cX3_hashOf 3 (some .int) 0 0 0 0 [.long k, .int m9] h (fun v h' => v = some (.int (k.toInt32 &&& m9)) ∧ h = h') (fun E h' => False) := by
  refine q_ofW (by decide) (by exact Nat.le_of_ble_eq_true rfl) ?_
  intro p e s m below meth c ls C hP hl
  have hx := C.1
  have hb := C.2.1
  have hS : va_S (qA N0) s.heap s.heap [] := va_S.rf
  have hl : lv_has ls 3 [(0, .long k), (2, .int m9)] := hl
  refine lv_lload_n hx hb dX3_hashOf_0 rfl (lv_at hl 0 rfl) ?_
  refine lv_l2i hx hb dX3_hashOf_1 rfl ?_
  refine lv_iload_n hx hb dX3_hashOf_2 rfl (lv_at hl 1 rfl) ?_
  refine lv_iand hx hb dX3_hashOf_3 ?_
  exact q_iret C hP hS ⟨rfl, rfl⟩ (by omega) dX3_hashOf_4
theorem dX3_bitOf_0 : decode cX3_bitOf 0 = .ok (.iload_n 1, 1) := by decide +kernel
theorem dX3_bitOf_1 : decode cX3_bitOf 1 = .ok (.bipush 7, 2) := by decide +kernel
theorem dX3_bitOf_3 : decode cX3_bitOf 3 = .ok (.if_icmp .ge 16, 3) := by decide +kernel
theorem dX3_bitOf_6 : decode cX3_bitOf 6 = .ok (.iconst 1, 1) := by decide +kernel
theorem dX3_bitOf_7 : decode cX3_bitOf 7 = .ok (.iload_n 0, 1) := by decide +kernel
theorem dX3_bitOf_8 : decode cX3_bitOf 8 = .ok (.iconst 5, 1) := by decide +kernel
theorem dX3_bitOf_9 : decode cX3_bitOf 9 = .ok (.iload_n 1, 1) := by decide +kernel
theorem dX3_bitOf_10 : decode cX3_bitOf 10 = .ok (.imul, 1) := by decide +kernel
theorem dX3_bitOf_11 : decode cX3_bitOf 11 = .ok (.iushr, 1) := by decide +kernel
theorem dX3_bitOf_12 : decode cX3_bitOf 12 = .ok (.bipush 31, 2) := by decide +kernel
theorem dX3_bitOf_14 : decode cX3_bitOf 14 = .ok (.iand, 1) := by decide +kernel
theorem dX3_bitOf_15 : decode cX3_bitOf 15 = .ok (.ishl, 1) := by decide +kernel
theorem dX3_bitOf_16 : decode cX3_bitOf 16 = .ok (.goto 4, 3) := by decide +kernel
theorem dX3_bitOf_19 : decode cX3_bitOf 19 = .ok (.iconst 0, 1) := by decide +kernel
theorem dX3_bitOf_20 : decode cX3_bitOf 20 = .ok (.ireturn, 1) := by decide +kernel
set_option maxRecDepth 100000 in
set_option maxHeartbeats 4000000 in
theorem c_X3_bitOf (l : Launch) (D : va_G) (cy : Nat → ClassId) (N0 : Nat) (h : qH) (k : Int64) (m9 : Int32) (d : Nat) (hd : d ≤ 7) : qC l D cy N0 yX3_bitOf cX3_bitOf 2 (some .int) 0 0 0 0 [.int (k.toInt32 &&& m9), .int (nI d)] h (fun v h' => v = some (.int (nI (thB m9 d k))) ∧ h = h') (fun E h' => False) := by
  refine q_ofW (by decide) (by exact Nat.le_of_ble_eq_true rfl) ?_
  intro p e s m below meth c ls C hP hl
  have hx := C.1
  have hb := C.2.1
  have hS : va_S (qA N0) s.heap s.heap [] := va_S.rf
  have hl : lv_has ls 2 [(0, .int (k.toInt32 &&& m9)), (1, .int (nI d))] := hl
  refine lv_iload_n hx hb dX3_bitOf_0 rfl (lv_at hl 1 rfl) ?_
  refine lv_bipush (v := nI 7) hx hb dX3_bitOf_1 (by decide) ?_
  refine lv_icmp_ge (tgt := 19) hx hb dX3_bitOf_3 (by decide) (fun c3 => ?_) (fun c3 => ?_)
  · replace c3 : 7 ≤ d := (nI_leI (a := 7) (b := d) (by omega) (by omega)).mp c3
    refine lv_iconst (v := nI 0) hx hb dX3_bitOf_19 (by decide) ?_
    exact q_iret C hP hS ⟨by unfold thB; rw [if_neg (by omega)], rfl⟩ (by omega) dX3_bitOf_20
  · replace c3 : ¬ 7 ≤ d := fun zq => c3 ((nI_leI (a := 7) (b := d) (by omega) (by omega)).mpr zq)
    refine lv_iconst (v := nI 1) hx hb dX3_bitOf_6 (by decide) ?_
    refine lv_iload_n hx hb dX3_bitOf_7 rfl (lv_at hl 0 rfl) ?_
    refine lv_iconst (v := nI 5) hx hb dX3_bitOf_8 (by decide) ?_
    refine lv_iload_n hx hb dX3_bitOf_9 rfl (lv_at hl 1 rfl) ?_
    refine q_imulN hx hb dX3_bitOf_10 ?_
    refine lv_iushr hx hb dX3_bitOf_11 rfl ?_
    refine lv_bipush (v := nI 31) hx hb dX3_bitOf_12 (by decide) ?_
    refine lv_iand hx hb dX3_bitOf_14 ?_
    refine lv_ishl hx hb dX3_bitOf_15 ?_
    refine lv_goto (tgt := 20) hx hb dX3_bitOf_16 (by decide) ?_
    exact q_iret C hP hS ⟨by unfold thB; rw [if_pos (by omega), ← tq_bit (by omega)], rfl⟩ (by omega) dX3_bitOf_20
theorem dJ6_bitCount_0f7a4_0 : decode cJ6_bitCount_0f7a4 0 = .ok (.iload_n 0, 1) := by decide +kernel
theorem dJ6_bitCount_0f7a4_1 : decode cJ6_bitCount_0f7a4 1 = .ok (.iload_n 0, 1) := by decide +kernel
theorem dJ6_bitCount_0f7a4_2 : decode cJ6_bitCount_0f7a4 2 = .ok (.iconst 1, 1) := by decide +kernel
theorem dJ6_bitCount_0f7a4_3 : decode cJ6_bitCount_0f7a4 3 = .ok (.iushr, 1) := by decide +kernel
theorem dJ6_bitCount_0f7a4_4 : decode cJ6_bitCount_0f7a4 4 = .ok (.ldc_w 265, 3) := by decide +kernel
theorem dJ6_bitCount_0f7a4_7 : decode cJ6_bitCount_0f7a4 7 = .ok (.iand, 1) := by decide +kernel
theorem dJ6_bitCount_0f7a4_8 : decode cJ6_bitCount_0f7a4 8 = .ok (.isub, 1) := by decide +kernel
theorem dJ6_bitCount_0f7a4_9 : decode cJ6_bitCount_0f7a4 9 = .ok (.istore_n 0, 1) := by decide +kernel
theorem dJ6_bitCount_0f7a4_10 : decode cJ6_bitCount_0f7a4 10 = .ok (.iload_n 0, 1) := by decide +kernel
theorem dJ6_bitCount_0f7a4_11 : decode cJ6_bitCount_0f7a4 11 = .ok (.ldc_w 266, 3) := by decide +kernel
theorem dJ6_bitCount_0f7a4_14 : decode cJ6_bitCount_0f7a4 14 = .ok (.iand, 1) := by decide +kernel
theorem dJ6_bitCount_0f7a4_15 : decode cJ6_bitCount_0f7a4 15 = .ok (.iload_n 0, 1) := by decide +kernel
theorem dJ6_bitCount_0f7a4_16 : decode cJ6_bitCount_0f7a4 16 = .ok (.iconst 2, 1) := by decide +kernel
theorem dJ6_bitCount_0f7a4_17 : decode cJ6_bitCount_0f7a4 17 = .ok (.iushr, 1) := by decide +kernel
theorem dJ6_bitCount_0f7a4_18 : decode cJ6_bitCount_0f7a4 18 = .ok (.ldc_w 266, 3) := by decide +kernel
theorem dJ6_bitCount_0f7a4_21 : decode cJ6_bitCount_0f7a4 21 = .ok (.iand, 1) := by decide +kernel
theorem dJ6_bitCount_0f7a4_22 : decode cJ6_bitCount_0f7a4 22 = .ok (.iadd, 1) := by decide +kernel
theorem dJ6_bitCount_0f7a4_23 : decode cJ6_bitCount_0f7a4 23 = .ok (.istore_n 0, 1) := by decide +kernel
theorem dJ6_bitCount_0f7a4_24 : decode cJ6_bitCount_0f7a4 24 = .ok (.iload_n 0, 1) := by decide +kernel
theorem dJ6_bitCount_0f7a4_25 : decode cJ6_bitCount_0f7a4 25 = .ok (.iload_n 0, 1) := by decide +kernel
theorem dJ6_bitCount_0f7a4_26 : decode cJ6_bitCount_0f7a4 26 = .ok (.iconst 4, 1) := by decide +kernel
theorem dJ6_bitCount_0f7a4_27 : decode cJ6_bitCount_0f7a4 27 = .ok (.iushr, 1) := by decide +kernel
theorem dJ6_bitCount_0f7a4_28 : decode cJ6_bitCount_0f7a4 28 = .ok (.iadd, 1) := by decide +kernel
theorem dJ6_bitCount_0f7a4_29 : decode cJ6_bitCount_0f7a4 29 = .ok (.ldc_w 267, 3) := by decide +kernel
theorem dJ6_bitCount_0f7a4_32 : decode cJ6_bitCount_0f7a4 32 = .ok (.iand, 1) := by decide +kernel
theorem dJ6_bitCount_0f7a4_33 : decode cJ6_bitCount_0f7a4 33 = .ok (.istore_n 0, 1) := by decide +kernel
theorem dJ6_bitCount_0f7a4_34 : decode cJ6_bitCount_0f7a4 34 = .ok (.iload_n 0, 1) := by decide +kernel
theorem dJ6_bitCount_0f7a4_35 : decode cJ6_bitCount_0f7a4 35 = .ok (.iload_n 0, 1) := by decide +kernel
theorem dJ6_bitCount_0f7a4_36 : decode cJ6_bitCount_0f7a4 36 = .ok (.bipush 8, 2) := by decide +kernel
theorem dJ6_bitCount_0f7a4_38 : decode cJ6_bitCount_0f7a4 38 = .ok (.iushr, 1) := by decide +kernel
theorem dJ6_bitCount_0f7a4_39 : decode cJ6_bitCount_0f7a4 39 = .ok (.iadd, 1) := by decide +kernel
theorem dJ6_bitCount_0f7a4_40 : decode cJ6_bitCount_0f7a4 40 = .ok (.istore_n 0, 1) := by decide +kernel
theorem dJ6_bitCount_0f7a4_41 : decode cJ6_bitCount_0f7a4 41 = .ok (.iload_n 0, 1) := by decide +kernel
theorem dJ6_bitCount_0f7a4_42 : decode cJ6_bitCount_0f7a4 42 = .ok (.iload_n 0, 1) := by decide +kernel
theorem dJ6_bitCount_0f7a4_43 : decode cJ6_bitCount_0f7a4 43 = .ok (.bipush 16, 2) := by decide +kernel
theorem dJ6_bitCount_0f7a4_45 : decode cJ6_bitCount_0f7a4 45 = .ok (.iushr, 1) := by decide +kernel
theorem dJ6_bitCount_0f7a4_46 : decode cJ6_bitCount_0f7a4 46 = .ok (.iadd, 1) := by decide +kernel
theorem dJ6_bitCount_0f7a4_47 : decode cJ6_bitCount_0f7a4 47 = .ok (.istore_n 0, 1) := by decide +kernel
theorem dJ6_bitCount_0f7a4_48 : decode cJ6_bitCount_0f7a4 48 = .ok (.iload_n 0, 1) := by decide +kernel
theorem dJ6_bitCount_0f7a4_49 : decode cJ6_bitCount_0f7a4 49 = .ok (.bipush 63, 2) := by decide +kernel
theorem dJ6_bitCount_0f7a4_51 : decode cJ6_bitCount_0f7a4 51 = .ok (.iand, 1) := by decide +kernel
theorem dJ6_bitCount_0f7a4_52 : decode cJ6_bitCount_0f7a4 52 = .ok (.ireturn, 1) := by decide +kernel
set_option maxRecDepth 100000 in
set_option maxHeartbeats 4000000 in
theorem c_J6_bitCount (l : Launch) (D : va_G) (cy : Nat → ClassId) (N0 : Nat) (h : qH) (x : Nat) (hx9 : x < 2 ^ 32) : qC l D cy N0 yJ6_bitCount_0f7a4 cJ6_bitCount_0f7a4 1 (some .int) 0 0 0 0 [.int (nI x)] h (fun v h' => v = some (.int (nI (tqC (Nat.testBit x) 32))) ∧ h = h') (fun E h' => False) := by
  refine q_ofWF (by decide +kernel) (by exact Nat.le_of_ble_eq_true rfl) ?_
  intro p e s m below meth c ls C hP hl
  have hx := C.1
  have hb := C.2.1
  have hS : va_S (qA N0) s.heap s.heap [] := va_S.rf
  have hl : lv_has ls 1 [(0, .int (nI x))] := hl
  refine lv_iload_n hx hb dJ6_bitCount_0f7a4_0 rfl (lv_at hl 0 rfl) ?_
  refine lv_iload_n hx hb dJ6_bitCount_0f7a4_1 rfl (lv_at hl 0 rfl) ?_
  refine lv_iconst (v := 1) hx hb dJ6_bitCount_0f7a4_2 (by decide) ?_
  refine lv_iushr hx hb dJ6_bitCount_0f7a4_3 rfl ?_
  refine lv_ldcw (own := "java/lang/Integer") hx hb C.2.2.2.2.1 (C.2.2.2.2.2.1 _ g311) dJ6_bitCount_0f7a4_4 ?_
  refine lv_iand hx hb dJ6_bitCount_0f7a4_7 ?_
  refine lv_isub hx hb dJ6_bitCount_0f7a4_8 ?_
  obtain ⟨u1, eu1⟩ : ∃ z : Int32, z = nI x - (((nI x).toUInt32 >>> ((1 : Int32).toUInt32 &&& Int32.toUInt32 31)).toInt32 &&& (1431655765 : Int32)) := ⟨_, rfl⟩
  rw [← eu1]
  refine lv_istore_n (lv' := [(0, .int u1)]) hx hb dJ6_bitCount_0f7a4_9 rfl hl (by decide) rfl (fun ls hl => ?_)
  refine lv_iload_n hx hb dJ6_bitCount_0f7a4_10 rfl (lv_at hl 0 rfl) ?_
  refine lv_ldcw (own := "java/lang/Integer") hx hb C.2.2.2.2.1 (C.2.2.2.2.2.1 _ g312) dJ6_bitCount_0f7a4_11 ?_
  refine lv_iand hx hb dJ6_bitCount_0f7a4_14 ?_
  refine lv_iload_n hx hb dJ6_bitCount_0f7a4_15 rfl (lv_at hl 0 rfl) ?_
  refine lv_iconst (v := 2) hx hb dJ6_bitCount_0f7a4_16 (by decide) ?_
  refine lv_iushr hx hb dJ6_bitCount_0f7a4_17 rfl ?_
  refine lv_ldcw (own := "java/lang/Integer") hx hb C.2.2.2.2.1 (C.2.2.2.2.2.1 _ g312) dJ6_bitCount_0f7a4_18 ?_
  refine lv_iand hx hb dJ6_bitCount_0f7a4_21 ?_
  refine lv_iadd hx hb dJ6_bitCount_0f7a4_22 ?_
  obtain ⟨u2, eu2⟩ : ∃ z : Int32, z = (u1 &&& (858993459 : Int32)) + ((u1.toUInt32 >>> ((2 : Int32).toUInt32 &&& Int32.toUInt32 31)).toInt32 &&& (858993459 : Int32)) := ⟨_, rfl⟩
  rw [← eu2]
  refine lv_istore_n (lv' := [(0, .int u2)]) hx hb dJ6_bitCount_0f7a4_23 rfl hl (by decide) rfl (fun ls hl => ?_)
  refine lv_iload_n hx hb dJ6_bitCount_0f7a4_24 rfl (lv_at hl 0 rfl) ?_
  refine lv_iload_n hx hb dJ6_bitCount_0f7a4_25 rfl (lv_at hl 0 rfl) ?_
  refine lv_iconst (v := 4) hx hb dJ6_bitCount_0f7a4_26 (by decide) ?_
  refine lv_iushr hx hb dJ6_bitCount_0f7a4_27 rfl ?_
  refine lv_iadd hx hb dJ6_bitCount_0f7a4_28 ?_
  refine lv_ldcw (own := "java/lang/Integer") hx hb C.2.2.2.2.1 (C.2.2.2.2.2.1 _ g313) dJ6_bitCount_0f7a4_29 ?_
  refine lv_iand hx hb dJ6_bitCount_0f7a4_32 ?_
  obtain ⟨u3, eu3⟩ : ∃ z : Int32, z = (u2 + (u2.toUInt32 >>> ((4 : Int32).toUInt32 &&& Int32.toUInt32 31)).toInt32) &&& (252645135 : Int32) := ⟨_, rfl⟩
  rw [← eu3]
  refine lv_istore_n (lv' := [(0, .int u3)]) hx hb dJ6_bitCount_0f7a4_33 rfl hl (by decide) rfl (fun ls hl => ?_)
  refine lv_iload_n hx hb dJ6_bitCount_0f7a4_34 rfl (lv_at hl 0 rfl) ?_
  refine lv_iload_n hx hb dJ6_bitCount_0f7a4_35 rfl (lv_at hl 0 rfl) ?_
  refine lv_bipush (v := 8) hx hb dJ6_bitCount_0f7a4_36 (by decide) ?_
  refine lv_iushr hx hb dJ6_bitCount_0f7a4_38 rfl ?_
  refine lv_iadd hx hb dJ6_bitCount_0f7a4_39 ?_
  obtain ⟨u4, eu4⟩ : ∃ z : Int32, z = u3 + (u3.toUInt32 >>> ((8 : Int32).toUInt32 &&& Int32.toUInt32 31)).toInt32 := ⟨_, rfl⟩
  rw [← eu4]
  refine lv_istore_n (lv' := [(0, .int u4)]) hx hb dJ6_bitCount_0f7a4_40 rfl hl (by decide) rfl (fun ls hl => ?_)
  refine lv_iload_n hx hb dJ6_bitCount_0f7a4_41 rfl (lv_at hl 0 rfl) ?_
  refine lv_iload_n hx hb dJ6_bitCount_0f7a4_42 rfl (lv_at hl 0 rfl) ?_
  refine lv_bipush (v := 16) hx hb dJ6_bitCount_0f7a4_43 (by decide) ?_
  refine lv_iushr hx hb dJ6_bitCount_0f7a4_45 rfl ?_
  refine lv_iadd hx hb dJ6_bitCount_0f7a4_46 ?_
  obtain ⟨u5, eu5⟩ : ∃ z : Int32, z = u4 + (u4.toUInt32 >>> ((16 : Int32).toUInt32 &&& Int32.toUInt32 31)).toInt32 := ⟨_, rfl⟩
  rw [← eu5]
  refine lv_istore_n (lv' := [(0, .int u5)]) hx hb dJ6_bitCount_0f7a4_47 rfl hl (by decide) rfl (fun ls hl => ?_)
  refine lv_iload_n hx hb dJ6_bitCount_0f7a4_48 rfl (lv_at hl 0 rfl) ?_
  refine lv_bipush (v := 63) hx hb dJ6_bitCount_0f7a4_49 (by decide) ?_
  refine lv_iand hx hb dJ6_bitCount_0f7a4_51 ?_
  exact q_iret C hP hS ⟨congrArg (fun z => some (Value.int z)) (tq_count hx9 eu1 eu2 eu3 eu4 eu5), rfl⟩ (by omega) dJ6_bitCount_0f7a4_52
theorem dX3_rankOf_0 : decode cX3_rankOf 0 = .ok (.iload_n 1, 1) := by decide +kernel
theorem dX3_rankOf_1 : decode cX3_rankOf 1 = .ok (.iload_n 0, 1) := by decide +kernel
theorem dX3_rankOf_2 : decode cX3_rankOf 2 = .ok (.iconst 1, 1) := by decide +kernel
theorem dX3_rankOf_3 : decode cX3_rankOf 3 = .ok (.isub, 1) := by decide +kernel
theorem dX3_rankOf_4 : decode cX3_rankOf 4 = .ok (.iand, 1) := by decide +kernel
theorem dX3_rankOf_5 : decode cX3_rankOf 5 = .ok (.invokestatic 35, 3) := by decide +kernel
theorem dX3_rankOf_8 : decode cX3_rankOf 8 = .ok (.ireturn, 1) := by decide +kernel
set_option maxRecDepth 100000 in
set_option maxHeartbeats 4000000 in
theorem c_X3_rankOf (l : Launch) (D : va_G) (cy : Nat → ClassId) (N0 : Nat) (h : qH) (p9 : Nat → Bool) (v9 : Nat) (hv9 : v9 < 32) : qC l D cy N0 yX3_rankOf cX3_rankOf 2 (some .int) 1 30 0 0 [.int (nI (2 ^ v9)), .int (nI (tqB p9 32))] h (fun v h' => v = some (.int (nI (tqC p9 v9))) ∧ h = h') (fun E h' => False) := by
  refine q_ofW (by decide) (by exact Nat.le_of_ble_eq_true rfl) ?_
  intro p e s m below meth c ls C hP hl
  have hx := C.1
  have hb := C.2.1
  have hS : va_S (qA N0) s.heap s.heap [] := va_S.rf
  have hl : lv_has ls 2 [(0, .int (nI (2 ^ v9))), (1, .int (nI (tqB p9 32)))] := hl
  have h2v := Nat.one_le_two_pow (n := v9)
  refine lv_iload_n hx hb dX3_rankOf_0 rfl (lv_at hl 1 rfl) ?_
  refine lv_iload_n hx hb dX3_rankOf_1 rfl (lv_at hl 0 rfl) ?_
  refine lv_iconst (v := nI 1) hx hb dX3_rankOf_2 (by decide) ?_
  refine q_isubN hx hb dX3_rankOf_3 (by omega) ?_
  refine lv_iand hx hb dX3_rankOf_4 ?_
  rw [show nI (tqB p9 32) &&& nI (2 ^ v9 - 1) = nI (tqB p9 v9) from by rw [← q_nsub (by omega)]; exact tqB_low hv9]
  have hlt : tqB p9 v9 < 2 ^ 32 := Nat.lt_of_lt_of_le (tqB_lt v9) (Nat.pow_le_pow_right (by decide) (by omega))
  refine q_callS (rest := []) C (c_J6_bitCount l D cy N0 h (tqB p9 v9) hlt) kJ6_bitCount_0f7a4 g308 g309 hP hS (by first | decide | omega) hl.1 rfl (by decide) (by first | decide | omega) dX3_rankOf_5 (fun q ce E h' H1 locs1 hE => hE.elim) (fun v hh1 H locs hq hP hS => ?_)
  obtain ⟨rfl, rfl⟩ := hq
  exact q_iret C hP hS ⟨by rw [tqC_tb (by omega)], rfl⟩ (by omega) dX3_rankOf_8
