def qIn (n k : Int32) : Prop := ¬ n < 0 ∧ n ≤ k
theorem qIn.of3 {x : Int32} (h : qIn x 3) : ∃ i : Nat, i < 4 ∧ x = nI i := by
  obtain ⟨j, hj, e⟩ := nI_of2 (M := 3) (n := 3) (by decide) h.1 h.2
  exact ⟨j, by omega, e⟩
/-- a builder -/
def qBd (h : qH) (g : Nat → Option Nat) (j : Nat) (b rw : Nat) (io kd ln e2 : Int32) (rt : Option Nat) : Prop := g j = some b ∧ h b = some (.inr (1, [.ref rw, .int io, .int kd, .int ln, va_rf rt, .int e2]))

theorem dX6_openBuilder_0 : decode cX6_openBuilder 0 = .ok (.aload_n 0, 1) := by decide +kernel
theorem dX6_openBuilder_1 : decode cX6_openBuilder 1 = .ok (.getfield 17, 3) := by decide +kernel
theorem dX6_openBuilder_4 : decode cX6_openBuilder 4 = .ok (.iload_n 1, 1) := by decide +kernel
theorem dX6_openBuilder_5 : decode cX6_openBuilder 5 = .ok (.aaload, 1) := by decide +kernel
theorem dX6_openBuilder_6 : decode cX6_openBuilder 6 = .ok (.astore_n 2, 1) := by decide +kernel
theorem dX6_openBuilder_7 : decode cX6_openBuilder 7 = .ok (.aload_n 2, 1) := by decide +kernel
theorem dX6_openBuilder_8 : decode cX6_openBuilder 8 = .ok (.getfield 315, 3) := by decide +kernel
theorem dX6_openBuilder_11 : decode cX6_openBuilder 11 = .ok (.ifCond .ne 14, 3) := by decide +kernel
theorem dX6_openBuilder_14 : decode cX6_openBuilder 14 = .ok (.new 319, 3) := by decide +kernel
theorem dX6_openBuilder_17 : decode cX6_openBuilder 17 = .ok (.dup, 1) := by decide +kernel
theorem dX6_openBuilder_18 : decode cX6_openBuilder 18 = .ok (.ldc_w 402, 3) := by decide +kernel
theorem dX6_openBuilder_21 : decode cX6_openBuilder 21 = .ok (.invokespecial 323, 3) := by decide +kernel
theorem dX6_openBuilder_24 : decode cX6_openBuilder 24 = .ok (.athrow, 1) := by decide +kernel
theorem dX6_openBuilder_25 : decode cX6_openBuilder 25 = .ok (.aload_n 2, 1) := by decide +kernel
theorem dX6_openBuilder_26 : decode cX6_openBuilder 26 = .ok (.areturn, 1) := by decide +kernel
set_option maxRecDepth 100000 in
set_option maxHeartbeats 4000000 in
theorem c_X6_openBuilder (l : Launch) (D : va_G) (cy : Nat → ClassId) (N0 : Nat) (h : qH) (x sl bl kr vr : Nat) (hm ca mv ed : Int32) (f : Nat → Option Nat) (g : Nat → Option Nat) (j b rw : Nat) (io kd ln e2 : Int32) (rt : Option Nat) (hT : h x = some (.inr (6, [.int hm, .ref sl, .ref bl, .ref kr, .ref vr, .int ca, .int mv, .int ed]))) (hsl : h sl = some (.inl (cy 3, 24, .inr (.inr (.inr (.inr f)))))) (hbl : h bl = some (.inl (cy 2, 4, .inr (.inr (.inr (.inr g)))))) (hj : j < 4) (hb2 : qBd h g j b rw io kd ln e2 rt) : qC l D cy N0 yX6_openBuilder cX6_openBuilder 3 (some (.object RX1)) 6 82 1 6 [.ref x, .int (nI j)] h (fun v h' => h = h' ∧ v = some (.ref b) ∧ ¬ io = 0) (fun E h' => h = h' ∧ E = "java/lang/IllegalStateException" ∧ io = 0) := by
  refine q_ofW (by decide) (by exact Nat.le_of_ble_eq_true rfl) ?_
  intro p e s m below meth c ls C hP hl
  have hx := C.1
  have hb := C.2.1
  have hS : va_S (qA N0) s.heap s.heap [] := va_S.rf
  have hl : lv_has ls 3 [(0, .ref x), (1, .int (nI j))] := hl
  obtain ⟨hgj, hB⟩ := hb2
  refine lv_aload_n hx hb dX6_openBuilder_0 rfl (lv_at hl 0 rfl) ?_
  refine q_get C hP hT rfl inX6 2 (by decide) g70 rfl dX6_openBuilder_1 ?_
  refine lv_iload_n hx hb dX6_openBuilder_4 rfl (lv_at hl 1 rfl) ?_
  refine q_aaldN C hP hbl rfl (by omega) (by omega) dX6_openBuilder_5 ?_
  rw [hgj]
  refine lv_astore_n (lv' := [(2, .ref b), (0, .ref x), (1, .int (nI j))]) hx hb dX6_openBuilder_6 rfl hl (by decide) rfl (fun ls hl => ?_)
  refine lv_aload_n hx hb dX6_openBuilder_7 rfl (lv_at hl 0 rfl) ?_
  refine q_getN C hP hB rfl inX1 1 (by decide) (by decide +kernel) rfl dX6_openBuilder_8 ?_
  refine lv_if_ne (tgt := 25) hx hb dX6_openBuilder_11 (by decide) (fun c11 => ?_) (fun c11 => ?_)
  · refine lv_aload_n hx hb dX6_openBuilder_25 rfl (lv_at hl 0 rfl) ?_
    exact q_aret (v := some b) C (Or.inl ⟨_, rfl⟩) hP hS ⟨rfl, rfl, c11⟩ (by omega) dX6_openBuilder_26
  · exact q_throw (text := "the builder is not open") C kt_ISE (by decide) hP hS hl.1 dX6_openBuilder_14 dX6_openBuilder_17 dX6_openBuilder_18 dX6_openBuilder_21 dX6_openBuilder_24 (by simp [q_catrf, q_cati, q_catl, q_cata, q_catn]) (by omega) ⟨rfl, rfl, c11⟩

theorem dX6_copy_0 : decode cX6_copy 0 = .ok (.iload_n 1, 1) := by decide +kernel
theorem dX6_copy_1 : decode cX6_copy 1 = .ok (.invokestatic 39, 3) := by decide +kernel
theorem dX6_copy_4 : decode cX6_copy 4 = .ok (.aload_n 0, 1) := by decide +kernel
theorem dX6_copy_5 : decode cX6_copy 5 = .ok (.iload_n 1, 1) := by decide +kernel
theorem dX6_copy_6 : decode cX6_copy 6 = .ok (.aload_n 0, 1) := by decide +kernel
theorem dX6_copy_7 : decode cX6_copy 7 = .ok (.iload_n 2, 1) := by decide +kernel
theorem dX6_copy_8 : decode cX6_copy 8 = .ok (.bipush 127, 2) := by decide +kernel
theorem dX6_copy_10 : decode cX6_copy 10 = .ok (.invokevirtual 55, 3) := by decide +kernel
theorem dX6_size_0 : decode cX6_size 0 = .ok (.aload_n 0, 1) := by decide +kernel
theorem dX6_size_1 : decode cX6_size 1 = .ok (.iload_n 1, 1) := by decide +kernel
theorem dX6_size_2 : decode cX6_size 2 = .ok (.bipush 63, 2) := by decide +kernel
theorem dX6_size_4 : decode cX6_size 4 = .ok (.invokevirtual 55, 3) := by decide +kernel
theorem dX6_add_0 : decode cX6_add 0 = .ok (.iload_n 1, 1) := by decide +kernel
theorem dX6_add_1 : decode cX6_add 1 = .ok (.invokestatic 39, 3) := by decide +kernel
theorem dX6_add_4 : decode cX6_add 4 = .ok (.aload_n 0, 1) := by decide +kernel
theorem dX6_add_5 : decode cX6_add 5 = .ok (.iload_n 2, 1) := by decide +kernel
theorem dX6_add_6 : decode cX6_add 6 = .ok (.bipush 53, 2) := by decide +kernel
theorem dX6_add_8 : decode cX6_add 8 = .ok (.invokevirtual 55, 3) := by decide +kernel
theorem dX6_push_0 : decode cX6_push 0 = .ok (.iload_n 1, 1) := by decide +kernel
theorem dX6_push_1 : decode cX6_push 1 = .ok (.invokestatic 39, 3) := by decide +kernel
theorem dX6_push_4 : decode cX6_push 4 = .ok (.aload_n 0, 1) := by decide +kernel
theorem dX6_push_5 : decode cX6_push 5 = .ok (.iload_n 2, 1) := by decide +kernel
theorem dX6_push_6 : decode cX6_push 6 = .ok (.bipush 65, 2) := by decide +kernel
theorem dX6_push_8 : decode cX6_push 8 = .ok (.invokevirtual 55, 3) := by decide +kernel
theorem dX6_set_0 : decode cX6_set 0 = .ok (.iload_n 1, 1) := by decide +kernel
theorem dX6_set_1 : decode cX6_set 1 = .ok (.invokestatic 39, 3) := by decide +kernel
theorem dX6_set_4 : decode cX6_set 4 = .ok (.aload_n 0, 1) := by decide +kernel
theorem dX6_set_5 : decode cX6_set 5 = .ok (.iload_n 2, 1) := by decide +kernel
theorem dX6_set_6 : decode cX6_set 6 = .ok (.iconst 1, 1) := by decide +kernel
theorem dX6_set_7 : decode cX6_set 7 = .ok (.invokevirtual 55, 3) := by decide +kernel
theorem dX6_at_0 : decode cX6_at 0 = .ok (.iload_n 1, 1) := by decide +kernel
theorem dX6_at_1 : decode cX6_at 1 = .ok (.invokestatic 39, 3) := by decide +kernel
theorem dX6_at_4 : decode cX6_at 4 = .ok (.iload_n 2, 1) := by decide +kernel
theorem dX6_at_5 : decode cX6_at 5 = .ok (.invokestatic 148, 3) := by decide +kernel
theorem dX6_at_8 : decode cX6_at 8 = .ok (.aload_n 0, 1) := by decide +kernel
theorem dX6_at_9 : decode cX6_at 9 = .ok (.iload_n 1, 1) := by decide +kernel
theorem dX6_at_10 : decode cX6_at 10 = .ok (.bipush 79, 2) := by decide +kernel
theorem dX6_at_12 : decode cX6_at 12 = .ok (.invokevirtual 55, 3) := by decide +kernel
theorem dX6_drop_0 : decode cX6_drop 0 = .ok (.iload_n 1, 1) := by decide +kernel
theorem dX6_drop_1 : decode cX6_drop 1 = .ok (.invokestatic 39, 3) := by decide +kernel
theorem dX6_drop_4 : decode cX6_drop 4 = .ok (.iload_n 2, 1) := by decide +kernel
theorem dX6_drop_5 : decode cX6_drop 5 = .ok (.invokestatic 39, 3) := by decide +kernel
theorem dX6_drop_8 : decode cX6_drop 8 = .ok (.iload_n 3, 1) := by decide +kernel
theorem dX6_drop_9 : decode cX6_drop 9 = .ok (.invokestatic 148, 3) := by decide +kernel
theorem dX6_drop_12 : decode cX6_drop 12 = .ok (.aload_n 0, 1) := by decide +kernel
theorem dX6_drop_13 : decode cX6_drop 13 = .ok (.iload_n 2, 1) := by decide +kernel
theorem dX6_drop_14 : decode cX6_drop 14 = .ok (.iconst 1, 1) := by decide +kernel
theorem dX6_drop_15 : decode cX6_drop 15 = .ok (.invokevirtual 55, 3) := by decide +kernel
theorem dX6_pop_0 : decode cX6_pop 0 = .ok (.iload_n 1, 1) := by decide +kernel
theorem dX6_pop_1 : decode cX6_pop 1 = .ok (.invokestatic 39, 3) := by decide +kernel
theorem dX6_pop_4 : decode cX6_pop 4 = .ok (.aload_n 0, 1) := by decide +kernel
theorem dX6_pop_5 : decode cX6_pop 5 = .ok (.iload_n 2, 1) := by decide +kernel
theorem dX6_pop_6 : decode cX6_pop 6 = .ok (.bipush 113, 2) := by decide +kernel
theorem dX6_pop_8 : decode cX6_pop 8 = .ok (.invokevirtual 55, 3) := by decide +kernel
theorem dX6_front_0 : decode cX6_front 0 = .ok (.aload_n 0, 1) := by decide +kernel
theorem dX6_front_1 : decode cX6_front 1 = .ok (.iload_n 1, 1) := by decide +kernel
theorem dX6_front_2 : decode cX6_front 2 = .ok (.bipush 112, 2) := by decide +kernel
theorem dX6_front_4 : decode cX6_front 4 = .ok (.invokevirtual 55, 3) := by decide +kernel
theorem dX6_put_0 : decode cX6_put 0 = .ok (.iload_n 1, 1) := by decide +kernel
theorem dX6_put_1 : decode cX6_put 1 = .ok (.invokestatic 39, 3) := by decide +kernel
theorem dX6_put_4 : decode cX6_put 4 = .ok (.aload_n 0, 1) := by decide +kernel
theorem dX6_put_5 : decode cX6_put 5 = .ok (.iload_n 2, 1) := by decide +kernel
theorem dX6_put_6 : decode cX6_put 6 = .ok (.bipush 10, 2) := by decide +kernel
theorem dX6_put_8 : decode cX6_put 8 = .ok (.invokevirtual 55, 3) := by decide +kernel
theorem dX6_find_0 : decode cX6_find 0 = .ok (.aload_n 0, 1) := by decide +kernel
theorem dX6_find_1 : decode cX6_find 1 = .ok (.iload_n 1, 1) := by decide +kernel
theorem dX6_find_2 : decode cX6_find 2 = .ok (.bipush 14, 2) := by decide +kernel
theorem dX6_find_4 : decode cX6_find 4 = .ok (.invokevirtual 55, 3) := by decide +kernel
theorem dX6_out_0 : decode cX6_out 0 = .ok (.iload_n 1, 1) := by decide +kernel
theorem dX6_out_1 : decode cX6_out 1 = .ok (.invokestatic 39, 3) := by decide +kernel
theorem dX6_out_4 : decode cX6_out 4 = .ok (.aload_n 0, 1) := by decide +kernel
theorem dX6_out_5 : decode cX6_out 5 = .ok (.iload_n 2, 1) := by decide +kernel
theorem dX6_out_6 : decode cX6_out 6 = .ok (.bipush 14, 2) := by decide +kernel
theorem dX6_out_8 : decode cX6_out 8 = .ok (.invokevirtual 55, 3) := by decide +kernel
theorem dX6_near_0 : decode cX6_near 0 = .ok (.iload_n 1, 1) := by decide +kernel
theorem dX6_near_1 : decode cX6_near 1 = .ok (.invokestatic 39, 3) := by decide +kernel
theorem dX6_near_4 : decode cX6_near 4 = .ok (.iload 4, 2) := by decide +kernel
theorem dX6_near_6 : decode cX6_near 6 = .ok (.iconst 3, 1) := by decide +kernel
theorem dX6_near_7 : decode cX6_near 7 = .ok (.invokestatic 43, 3) := by decide +kernel
theorem dX6_near_10 : decode cX6_near 10 = .ok (.aload_n 0, 1) := by decide +kernel
theorem dX6_near_11 : decode cX6_near 11 = .ok (.iload_n 1, 1) := by decide +kernel
theorem dX6_near_12 : decode cX6_near 12 = .ok (.bipush 8, 2) := by decide +kernel
theorem dX6_near_14 : decode cX6_near 14 = .ok (.invokevirtual 55, 3) := by decide +kernel
theorem dX6_range_0 : decode cX6_range 0 = .ok (.iload_n 1, 1) := by decide +kernel
theorem dX6_range_1 : decode cX6_range 1 = .ok (.invokestatic 39, 3) := by decide +kernel
theorem dX6_range_4 : decode cX6_range 4 = .ok (.aload_n 0, 1) := by decide +kernel
theorem dX6_range_5 : decode cX6_range 5 = .ok (.iload_n 2, 1) := by decide +kernel
theorem dX6_range_6 : decode cX6_range 6 = .ok (.bipush 8, 2) := by decide +kernel
theorem dX6_range_8 : decode cX6_range 8 = .ok (.invokevirtual 55, 3) := by decide +kernel
theorem dX6_join_0 : decode cX6_join 0 = .ok (.iload_n 1, 1) := by decide +kernel
theorem dX6_join_1 : decode cX6_join 1 = .ok (.invokestatic 39, 3) := by decide +kernel
theorem dX6_join_4 : decode cX6_join 4 = .ok (.iload_n 2, 1) := by decide +kernel
theorem dX6_join_5 : decode cX6_join 5 = .ok (.invokestatic 39, 3) := by decide +kernel
theorem dX6_join_8 : decode cX6_join 8 = .ok (.iload_n 3, 1) := by decide +kernel
theorem dX6_join_9 : decode cX6_join 9 = .ok (.invokestatic 39, 3) := by decide +kernel
theorem dX6_join_12 : decode cX6_join 12 = .ok (.aload_n 0, 1) := by decide +kernel
theorem dX6_join_13 : decode cX6_join 13 = .ok (.iload_n 2, 1) := by decide +kernel
theorem dX6_join_14 : decode cX6_join 14 = .ok (.bipush 127, 2) := by decide +kernel
theorem dX6_join_16 : decode cX6_join 16 = .ok (.invokevirtual 55, 3) := by decide +kernel
theorem dX6_meet_0 : decode cX6_meet 0 = .ok (.iload_n 1, 1) := by decide +kernel
theorem dX6_meet_1 : decode cX6_meet 1 = .ok (.invokestatic 39, 3) := by decide +kernel
theorem dX6_meet_4 : decode cX6_meet 4 = .ok (.iload_n 2, 1) := by decide +kernel
theorem dX6_meet_5 : decode cX6_meet 5 = .ok (.invokestatic 39, 3) := by decide +kernel
theorem dX6_meet_8 : decode cX6_meet 8 = .ok (.iload_n 3, 1) := by decide +kernel
theorem dX6_meet_9 : decode cX6_meet 9 = .ok (.invokestatic 39, 3) := by decide +kernel
theorem dX6_meet_12 : decode cX6_meet 12 = .ok (.aload_n 0, 1) := by decide +kernel
theorem dX6_meet_13 : decode cX6_meet 13 = .ok (.iload_n 2, 1) := by decide +kernel
theorem dX6_meet_14 : decode cX6_meet 14 = .ok (.iconst 4, 1) := by decide +kernel
theorem dX6_meet_15 : decode cX6_meet 15 = .ok (.invokevirtual 55, 3) := by decide +kernel
theorem dX6_shape_0 : decode cX6_shape 0 = .ok (.aload_n 0, 1) := by decide +kernel
theorem dX6_shape_1 : decode cX6_shape 1 = .ok (.iload_n 1, 1) := by decide +kernel
theorem dX6_shape_2 : decode cX6_shape 2 = .ok (.bipush 6, 2) := by decide +kernel
theorem dX6_shape_4 : decode cX6_shape 4 = .ok (.invokevirtual 55, 3) := by decide +kernel
theorem dX6_same_0 : decode cX6_same 0 = .ok (.iload_n 1, 1) := by decide +kernel
theorem dX6_same_1 : decode cX6_same 1 = .ok (.invokestatic 39, 3) := by decide +kernel
theorem dX6_same_4 : decode cX6_same 4 = .ok (.iload_n 2, 1) := by decide +kernel
theorem dX6_same_5 : decode cX6_same 5 = .ok (.invokestatic 39, 3) := by decide +kernel
theorem dX6_same_8 : decode cX6_same 8 = .ok (.aload_n 0, 1) := by decide +kernel
theorem dX6_same_9 : decode cX6_same 9 = .ok (.iload_n 1, 1) := by decide +kernel
theorem dX6_same_10 : decode cX6_same 10 = .ok (.bipush 63, 2) := by decide +kernel
theorem dX6_same_12 : decode cX6_same 12 = .ok (.invokevirtual 55, 3) := by decide +kernel
theorem dX6_map_0 : decode cX6_map 0 = .ok (.iload_n 1, 1) := by decide +kernel
theorem dX6_map_1 : decode cX6_map 1 = .ok (.invokestatic 39, 3) := by decide +kernel
theorem dX6_map_4 : decode cX6_map 4 = .ok (.iload_n 2, 1) := by decide +kernel
theorem dX6_map_5 : decode cX6_map 5 = .ok (.invokestatic 39, 3) := by decide +kernel
theorem dX6_map_8 : decode cX6_map 8 = .ok (.iload_n 3, 1) := by decide +kernel
theorem dX6_map_9 : decode cX6_map 9 = .ok (.bipush 6, 2) := by decide +kernel
theorem dX6_map_11 : decode cX6_map 11 = .ok (.invokestatic 43, 3) := by decide +kernel
theorem dX6_map_14 : decode cX6_map 14 = .ok (.aload_n 0, 1) := by decide +kernel
theorem dX6_map_15 : decode cX6_map 15 = .ok (.iload_n 2, 1) := by decide +kernel
theorem dX6_map_16 : decode cX6_map 16 = .ok (.bipush 65, 2) := by decide +kernel
theorem dX6_map_18 : decode cX6_map 18 = .ok (.invokevirtual 55, 3) := by decide +kernel
theorem dX6_filter_0 : decode cX6_filter 0 = .ok (.iload_n 1, 1) := by decide +kernel
theorem dX6_filter_1 : decode cX6_filter 1 = .ok (.invokestatic 39, 3) := by decide +kernel
theorem dX6_filter_4 : decode cX6_filter 4 = .ok (.iload_n 2, 1) := by decide +kernel
theorem dX6_filter_5 : decode cX6_filter 5 = .ok (.invokestatic 39, 3) := by decide +kernel
theorem dX6_filter_8 : decode cX6_filter 8 = .ok (.iload_n 3, 1) := by decide +kernel
theorem dX6_filter_9 : decode cX6_filter 9 = .ok (.iconst 4, 1) := by decide +kernel
theorem dX6_filter_10 : decode cX6_filter 10 = .ok (.invokestatic 43, 3) := by decide +kernel
theorem dX6_filter_13 : decode cX6_filter 13 = .ok (.aload_n 0, 1) := by decide +kernel
theorem dX6_filter_14 : decode cX6_filter 14 = .ok (.iload_n 2, 1) := by decide +kernel
theorem dX6_filter_15 : decode cX6_filter 15 = .ok (.bipush 69, 2) := by decide +kernel
theorem dX6_filter_17 : decode cX6_filter 17 = .ok (.invokevirtual 55, 3) := by decide +kernel
theorem dX6_take_0 : decode cX6_take 0 = .ok (.iload_n 1, 1) := by decide +kernel
theorem dX6_take_1 : decode cX6_take 1 = .ok (.invokestatic 39, 3) := by decide +kernel
theorem dX6_take_4 : decode cX6_take 4 = .ok (.iload_n 2, 1) := by decide +kernel
theorem dX6_take_5 : decode cX6_take 5 = .ok (.invokestatic 39, 3) := by decide +kernel
theorem dX6_take_8 : decode cX6_take 8 = .ok (.iload_n 3, 1) := by decide +kernel
theorem dX6_take_9 : decode cX6_take 9 = .ok (.invokestatic 148, 3) := by decide +kernel
theorem dX6_take_12 : decode cX6_take 12 = .ok (.aload_n 0, 1) := by decide +kernel
theorem dX6_take_13 : decode cX6_take 13 = .ok (.iload_n 2, 1) := by decide +kernel
theorem dX6_take_14 : decode cX6_take 14 = .ok (.bipush 64, 2) := by decide +kernel
theorem dX6_take_16 : decode cX6_take 16 = .ok (.invokevirtual 55, 3) := by decide +kernel
theorem dX6_list_0 : decode cX6_list 0 = .ok (.iload_n 1, 1) := by decide +kernel
theorem dX6_list_1 : decode cX6_list 1 = .ok (.invokestatic 39, 3) := by decide +kernel
theorem dX6_list_4 : decode cX6_list 4 = .ok (.iload_n 2, 1) := by decide +kernel
theorem dX6_list_5 : decode cX6_list 5 = .ok (.invokestatic 39, 3) := by decide +kernel
theorem dX6_list_8 : decode cX6_list 8 = .ok (.iload_n 3, 1) := by decide +kernel
theorem dX6_list_9 : decode cX6_list 9 = .ok (.sipush 1000, 3) := by decide +kernel
theorem dX6_list_12 : decode cX6_list 12 = .ok (.invokestatic 43, 3) := by decide +kernel
theorem dX6_list_15 : decode cX6_list 15 = .ok (.aload_n 0, 1) := by decide +kernel
theorem dX6_list_16 : decode cX6_list 16 = .ok (.iload_n 2, 1) := by decide +kernel
theorem dX6_list_17 : decode cX6_list 17 = .ok (.bipush 64, 2) := by decide +kernel
theorem dX6_list_19 : decode cX6_list 19 = .ok (.invokevirtual 55, 3) := by decide +kernel
theorem dX6_turn_0 : decode cX6_turn 0 = .ok (.iload_n 1, 1) := by decide +kernel
theorem dX6_turn_1 : decode cX6_turn 1 = .ok (.invokestatic 39, 3) := by decide +kernel
theorem dX6_turn_4 : decode cX6_turn 4 = .ok (.aload_n 0, 1) := by decide +kernel
theorem dX6_turn_5 : decode cX6_turn 5 = .ok (.iload_n 2, 1) := by decide +kernel
theorem dX6_turn_6 : decode cX6_turn 6 = .ok (.bipush 15, 2) := by decide +kernel
theorem dX6_turn_8 : decode cX6_turn 8 = .ok (.invokevirtual 55, 3) := by decide +kernel
theorem dX6_open_0 : decode cX6_open 0 = .ok (.iload_n 1, 1) := by decide +kernel
theorem dX6_open_1 : decode cX6_open 1 = .ok (.iconst 3, 1) := by decide +kernel
theorem dX6_open_2 : decode cX6_open 2 = .ok (.invokestatic 43, 3) := by decide +kernel
theorem dX6_open_5 : decode cX6_open 5 = .ok (.aload_n 0, 1) := by decide +kernel
theorem dX6_open_6 : decode cX6_open 6 = .ok (.iload_n 2, 1) := by decide +kernel
theorem dX6_open_7 : decode cX6_open 7 = .ok (.bipush 7, 2) := by decide +kernel
theorem dX6_open_9 : decode cX6_open 9 = .ok (.invokevirtual 55, 3) := by decide +kernel
theorem dX6_build_0 : decode cX6_build 0 = .ok (.iload_n 1, 1) := by decide +kernel
theorem dX6_build_1 : decode cX6_build 1 = .ok (.iconst 3, 1) := by decide +kernel
theorem dX6_build_2 : decode cX6_build 2 = .ok (.invokestatic 43, 3) := by decide +kernel
theorem dX6_build_5 : decode cX6_build 5 = .ok (.iload_n 2, 1) := by decide +kernel
theorem dX6_build_6 : decode cX6_build 6 = .ok (.iconst 2, 1) := by decide +kernel
theorem dX6_build_7 : decode cX6_build 7 = .ok (.invokestatic 43, 3) := by decide +kernel
theorem dX6_build_10 : decode cX6_build 10 = .ok (.aload_n 0, 1) := by decide +kernel
theorem dX6_build_11 : decode cX6_build 11 = .ok (.iload_n 1, 1) := by decide +kernel
theorem dX6_build_12 : decode cX6_build 12 = .ok (.invokevirtual 330, 3) := by decide +kernel
theorem dX6_look_0 : decode cX6_look 0 = .ok (.iload_n 1, 1) := by decide +kernel
theorem dX6_look_1 : decode cX6_look 1 = .ok (.iconst 3, 1) := by decide +kernel
theorem dX6_look_2 : decode cX6_look 2 = .ok (.invokestatic 43, 3) := by decide +kernel
theorem dX6_look_5 : decode cX6_look 5 = .ok (.aload_n 0, 1) := by decide +kernel
theorem dX6_look_6 : decode cX6_look 6 = .ok (.iload_n 1, 1) := by decide +kernel
theorem dX6_look_7 : decode cX6_look 7 = .ok (.invokevirtual 330, 3) := by decide +kernel
theorem dX6_freeze_0 : decode cX6_freeze 0 = .ok (.iload_n 1, 1) := by decide +kernel
theorem dX6_freeze_1 : decode cX6_freeze 1 = .ok (.iconst 3, 1) := by decide +kernel
theorem dX6_freeze_2 : decode cX6_freeze 2 = .ok (.invokestatic 43, 3) := by decide +kernel
theorem dX6_freeze_5 : decode cX6_freeze 5 = .ok (.iload_n 2, 1) := by decide +kernel
theorem dX6_freeze_6 : decode cX6_freeze 6 = .ok (.invokestatic 39, 3) := by decide +kernel
theorem dX6_freeze_9 : decode cX6_freeze 9 = .ok (.aload_n 0, 1) := by decide +kernel
theorem dX6_freeze_10 : decode cX6_freeze 10 = .ok (.iload_n 2, 1) := by decide +kernel
theorem dX6_freeze_11 : decode cX6_freeze 11 = .ok (.aload_n 0, 1) := by decide +kernel
theorem dX6_freeze_12 : decode cX6_freeze 12 = .ok (.iload_n 1, 1) := by decide +kernel
theorem dX6_freeze_13 : decode cX6_freeze 13 = .ok (.invokevirtual 330, 3) := by decide +kernel