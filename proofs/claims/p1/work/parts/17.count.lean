theorem dX6_openBuilders_0 : decode cX6_openBuilders 0 = .ok (.iconst 0, 1) := by decide +kernel
theorem dX6_openBuilders_1 : decode cX6_openBuilders 1 = .ok (.istore_n 1, 1) := by decide +kernel
theorem dX6_openBuilders_2 : decode cX6_openBuilders 2 = .ok (.aload_n 0, 1) := by decide +kernel
theorem dX6_openBuilders_3 : decode cX6_openBuilders 3 = .ok (.getfield 17, 3) := by decide +kernel
theorem dX6_openBuilders_6 : decode cX6_openBuilders 6 = .ok (.astore_n 2, 1) := by decide +kernel
theorem dX6_openBuilders_7 : decode cX6_openBuilders 7 = .ok (.aload_n 2, 1) := by decide +kernel
theorem dX6_openBuilders_8 : decode cX6_openBuilders 8 = .ok (.arraylength, 1) := by decide +kernel
theorem dX6_openBuilders_9 : decode cX6_openBuilders 9 = .ok (.istore_n 3, 1) := by decide +kernel
theorem dX6_openBuilders_10 : decode cX6_openBuilders 10 = .ok (.iconst 0, 1) := by decide +kernel
theorem dX6_openBuilders_11 : decode cX6_openBuilders 11 = .ok (.istore 4, 2) := by decide +kernel
theorem dX6_openBuilders_13 : decode cX6_openBuilders 13 = .ok (.iload 4, 2) := by decide +kernel
theorem dX6_openBuilders_15 : decode cX6_openBuilders 15 = .ok (.iload_n 3, 1) := by decide +kernel
theorem dX6_openBuilders_16 : decode cX6_openBuilders 16 = .ok (.if_icmp .ge 26, 3) := by decide +kernel
theorem dX6_openBuilders_19 : decode cX6_openBuilders 19 = .ok (.aload_n 2, 1) := by decide +kernel
theorem dX6_openBuilders_20 : decode cX6_openBuilders 20 = .ok (.iload 4, 2) := by decide +kernel
theorem dX6_openBuilders_22 : decode cX6_openBuilders 22 = .ok (.aaload, 1) := by decide +kernel
theorem dX6_openBuilders_23 : decode cX6_openBuilders 23 = .ok (.astore 5, 2) := by decide +kernel
theorem dX6_openBuilders_25 : decode cX6_openBuilders 25 = .ok (.aload 5, 2) := by decide +kernel
theorem dX6_openBuilders_27 : decode cX6_openBuilders 27 = .ok (.getfield 315, 3) := by decide +kernel
theorem dX6_openBuilders_30 : decode cX6_openBuilders 30 = .ok (.ifCond .eq 6, 3) := by decide +kernel
theorem dX6_openBuilders_36 : decode cX6_openBuilders 36 = .ok (.iinc 4 1, 3) := by decide +kernel
theorem dX6_openBuilders_39 : decode cX6_openBuilders 39 = .ok (.goto (-26), 3) := by decide +kernel
theorem dX6_openBuilders_42 : decode cX6_openBuilders 42 = .ok (.iload_n 1, 1) := by decide +kernel
theorem dX6_openBuilders_43 : decode cX6_openBuilders 43 = .ok (.ireturn, 1) := by decide +kernel
set_option maxRecDepth 100000 in
set_option maxHeartbeats 4000000 in
theorem c_X6_openBuilders_0 (l : Launch) (D : va_G) (cy : Nat → ClassId) (N0 : Nat) (h : qH) (x sl bl kr vr : Nat) (hm ca mv ed : Int32) (f : Nat → Option Nat) (g : Nat → Option Nat) (hT : h x = some (.inr (6, [.int hm, .ref sl, .ref bl, .ref kr, .ref vr, .int ca, .int mv, .int ed]))) (hsl : h sl = some (.inl (cy 3, 24, .inr (.inr (.inr (.inr f)))))) (hbl : h bl = some (.inl (cy 2, 4, .inr (.inr (.inr (.inr g)))))) (hB : ∀ j, j < 4 → ∃ (b rw : Nat) (kd ln e2 : Int32) (rt : Option Nat), qBd h g j b rw 0 kd ln e2 rt) : qC l D cy N0 yX6_openBuilders cX6_openBuilders 6 (some .int) 0 0 0 0 [.ref x] h (fun v h' => h = h' ∧ v = some (.int 0)) (fun E h' => False) := by
  refine q_ofW (by decide) (by exact Nat.le_of_ble_eq_true rfl) ?_
  intro p e s m below meth c ls C hP hl
  have hx := C.1
  have hb := C.2.1
  have hS : va_S (qA N0) s.heap s.heap [] := va_S.rf
  have hl : lv_has ls 6 [(0, .ref x)] := hl
  refine lv_iconst (v := 0) hx hb dX6_openBuilders_0 (by decide) ?_
  refine lv_istore_n (lv' := [(1, .int 0), (0, .ref x)]) hx hb dX6_openBuilders_1 rfl hl (by decide) rfl (fun ls hl => ?_)
  refine lv_aload_n hx hb dX6_openBuilders_2 rfl (lv_at hl 1 rfl) ?_
  refine q_get C hP hT rfl inX6 2 (by decide) g70 rfl dX6_openBuilders_3 ?_
  refine lv_astore_n (lv' := [(2, .ref bl), (1, .int 0), (0, .ref x)]) hx hb dX6_openBuilders_6 rfl hl (by decide) rfl (fun ls hl => ?_)
  refine lv_aload_n hx hb dX6_openBuilders_7 rfl (lv_at hl 0 rfl) ?_
  refine q_alen C hP hbl rfl dX6_openBuilders_8 ?_
  refine lv_istore_n (lv' := [(3, .int (nI 4)), (2, .ref bl), (1, .int 0), (0, .ref x)]) hx hb dX6_openBuilders_9 rfl hl (by decide) rfl (fun ls hl => ?_)
  refine lv_iconst (v := 0) hx hb dX6_openBuilders_10 (by decide) ?_
  refine lv_istore (lv' := [(4, .int 0), (3, .int (nI 4)), (2, .ref bl), (1, .int 0), (0, .ref x)]) hx hb dX6_openBuilders_11 hl (by decide) rfl (fun ls hl => ?_)
  obtain ⟨j, ej⟩ : ∃ j : Nat, j = 0 := ⟨_, rfl⟩
  replace hl : lv_has ls 6 [(4, .int (nI j)), (3, .int (nI 4)), (2, .ref bl), (1, .int 0), (0, .ref x)] := by rw [ej, nI_0]; exact hl
  obtain ⟨nj, hnj⟩ : ∃ n, j + n = 4 := ⟨4, by omega⟩
  clear ej
  induction nj generalizing j ls  with
  | zero =>
    refine lv_iload hx hb dX6_openBuilders_13 (lv_at hl 0 rfl) ?_
    refine lv_iload_n hx hb dX6_openBuilders_15 rfl (lv_at hl 1 rfl) ?_
    refine lv_icmp_ge (tgt := 42) hx hb dX6_openBuilders_16 (by decide) (fun c16 => ?_) (fun c16 => ?_)
    · refine lv_iload_n hx hb dX6_openBuilders_42 rfl (lv_at hl 3 rfl) ?_
      exact q_iret C hP hS ⟨rfl, rfl⟩ (by omega) dX6_openBuilders_43
    · exact absurd ((nI_leI (a := 4) (b := j) (by omega) (by omega)).mpr (by omega)) c16
  | succ nj ihj =>
    refine lv_iload hx hb dX6_openBuilders_13 (lv_at hl 0 rfl) ?_
    refine lv_iload_n hx hb dX6_openBuilders_15 rfl (lv_at hl 1 rfl) ?_
    refine lv_icmp_ge (tgt := 42) hx hb dX6_openBuilders_16 (by decide) (fun c16 => ?_) (fun c16 => ?_)
    · exact absurd ((nI_leI (a := 4) (b := j) (by omega) (by omega)).mp c16) (by omega)
    · refine lv_aload_n hx hb dX6_openBuilders_19 rfl (lv_at hl 2 rfl) ?_
      refine lv_iload hx hb dX6_openBuilders_20 (lv_at hl 0 rfl) ?_
      refine q_aaldN C hP hbl rfl (by omega) (by omega) dX6_openBuilders_22 ?_
      obtain ⟨b, rw_, kd, ln, e2, rt, hgj, hBb⟩ := hB j (by omega)
      rw [hgj]
      refine lv_astore (lv' := [(5, .ref b), (4, .int (nI j)), (3, .int (nI 4)), (2, .ref bl), (1, .int 0), (0, .ref x)]) hx hb dX6_openBuilders_23 hl (by decide) rfl (fun ls hl => ?_)
      refine lv_aload hx hb dX6_openBuilders_25 (lv_at hl 0 rfl) ?_
      refine q_getN C hP hBb rfl inX1 1 (by decide) (by decide +kernel) rfl dX6_openBuilders_27 ?_
      refine lv_if_eq (tgt := 36) hx hb dX6_openBuilders_30 (by decide) (fun c30 => ?_) (fun c30 => absurd rfl c30)
      refine lv_iinc (v := nI (j + 1)) (lv' := [(4, .int (nI (j + 1))), (5, .ref b), (3, .int (nI 4)), (2, .ref bl), (1, .int 0), (0, .ref x)]) hx hb dX6_openBuilders_36 hl (k := 1) rfl (nI_1 j) (by decide) rfl (fun ls hl => ?_)
      refine lv_goto (tgt := 13) hx hb dX6_openBuilders_39 (by decide) ?_
      exact ihj (ls := ls) (j := j + 1) (hl := lv_sub hl [0, 2, 3, 4, 5] rfl) (hnj := by omega)

theorem dX6_unsoundSlots_0 : decode cX6_unsoundSlots 0 = .ok (.iconst 0, 1) := by decide +kernel
theorem dX6_unsoundSlots_1 : decode cX6_unsoundSlots 1 = .ok (.istore_n 1, 1) := by decide +kernel
theorem dX6_unsoundSlots_2 : decode cX6_unsoundSlots 2 = .ok (.aload_n 0, 1) := by decide +kernel
theorem dX6_unsoundSlots_3 : decode cX6_unsoundSlots 3 = .ok (.getfield 11, 3) := by decide +kernel
theorem dX6_unsoundSlots_6 : decode cX6_unsoundSlots 6 = .ok (.astore_n 2, 1) := by decide +kernel
theorem dX6_unsoundSlots_7 : decode cX6_unsoundSlots 7 = .ok (.aload_n 2, 1) := by decide +kernel
theorem dX6_unsoundSlots_8 : decode cX6_unsoundSlots 8 = .ok (.arraylength, 1) := by decide +kernel
theorem dX6_unsoundSlots_9 : decode cX6_unsoundSlots 9 = .ok (.istore_n 3, 1) := by decide +kernel
theorem dX6_unsoundSlots_10 : decode cX6_unsoundSlots 10 = .ok (.iconst 0, 1) := by decide +kernel
theorem dX6_unsoundSlots_11 : decode cX6_unsoundSlots 11 = .ok (.istore 4, 2) := by decide +kernel
theorem dX6_unsoundSlots_13 : decode cX6_unsoundSlots 13 = .ok (.iload 4, 2) := by decide +kernel
theorem dX6_unsoundSlots_15 : decode cX6_unsoundSlots 15 = .ok (.iload_n 3, 1) := by decide +kernel
theorem dX6_unsoundSlots_16 : decode cX6_unsoundSlots 16 = .ok (.if_icmp .ge 35, 3) := by decide +kernel
theorem dX6_unsoundSlots_19 : decode cX6_unsoundSlots 19 = .ok (.aload_n 2, 1) := by decide +kernel
theorem dX6_unsoundSlots_20 : decode cX6_unsoundSlots 20 = .ok (.iload 4, 2) := by decide +kernel
theorem dX6_unsoundSlots_22 : decode cX6_unsoundSlots 22 = .ok (.aaload, 1) := by decide +kernel
theorem dX6_unsoundSlots_23 : decode cX6_unsoundSlots 23 = .ok (.astore 5, 2) := by decide +kernel
theorem dX6_unsoundSlots_25 : decode cX6_unsoundSlots 25 = .ok (.aload 5, 2) := by decide +kernel
theorem dX6_unsoundSlots_27 : decode cX6_unsoundSlots 27 = .ok (.ifnull 18, 3) := by decide +kernel
theorem dX6_unsoundSlots_45 : decode cX6_unsoundSlots 45 = .ok (.iinc 4 1, 3) := by decide +kernel
theorem dX6_unsoundSlots_48 : decode cX6_unsoundSlots 48 = .ok (.goto (-35), 3) := by decide +kernel
theorem dX6_unsoundSlots_51 : decode cX6_unsoundSlots 51 = .ok (.iload_n 1, 1) := by decide +kernel
theorem dX6_unsoundSlots_52 : decode cX6_unsoundSlots 52 = .ok (.ireturn, 1) := by decide +kernel
set_option maxRecDepth 100000 in
set_option maxHeartbeats 4000000 in
theorem c_X6_unsoundSlots_0 (l : Launch) (D : va_G) (cy : Nat → ClassId) (N0 : Nat) (h : qH) (x sl bl kr vr : Nat) (hm ca mv ed : Int32) (f : Nat → Option Nat) (hT : h x = some (.inr (6, [.int hm, .ref sl, .ref bl, .ref kr, .ref vr, .int ca, .int mv, .int ed]))) (hsl : h sl = some (.inl (cy 3, 24, .inr (.inr (.inr (.inr f)))))) (hF : ∀ i, i < 24 → f i = none) : qC l D cy N0 yX6_unsoundSlots cX6_unsoundSlots 6 (some .int) 0 0 0 0 [.ref x] h (fun v h' => h = h' ∧ v = some (.int 0)) (fun E h' => False) := by
  refine q_ofW (by decide) (by exact Nat.le_of_ble_eq_true rfl) ?_
  intro p e s m below meth c ls C hP hl
  have hx := C.1
  have hb := C.2.1
  have hS : va_S (qA N0) s.heap s.heap [] := va_S.rf
  have hl : lv_has ls 6 [(0, .ref x)] := hl
  refine lv_iconst (v := 0) hx hb dX6_unsoundSlots_0 (by decide) ?_
  refine lv_istore_n (lv' := [(1, .int 0), (0, .ref x)]) hx hb dX6_unsoundSlots_1 rfl hl (by decide) rfl (fun ls hl => ?_)
  refine lv_aload_n hx hb dX6_unsoundSlots_2 rfl (lv_at hl 1 rfl) ?_
  refine q_get C hP hT rfl inX6 1 (by decide) g69 rfl dX6_unsoundSlots_3 ?_
  refine lv_astore_n (lv' := [(2, .ref sl), (1, .int 0), (0, .ref x)]) hx hb dX6_unsoundSlots_6 rfl hl (by decide) rfl (fun ls hl => ?_)
  refine lv_aload_n hx hb dX6_unsoundSlots_7 rfl (lv_at hl 0 rfl) ?_
  refine q_alen C hP hsl rfl dX6_unsoundSlots_8 ?_
  refine lv_istore_n (lv' := [(3, .int (nI 24)), (2, .ref sl), (1, .int 0), (0, .ref x)]) hx hb dX6_unsoundSlots_9 rfl hl (by decide) rfl (fun ls hl => ?_)
  refine lv_iconst (v := 0) hx hb dX6_unsoundSlots_10 (by decide) ?_
  refine lv_istore (lv' := [(4, .int 0), (3, .int (nI 24)), (2, .ref sl), (1, .int 0), (0, .ref x)]) hx hb dX6_unsoundSlots_11 hl (by decide) rfl (fun ls hl => ?_)
  obtain ⟨j, ej⟩ : ∃ j : Nat, j = 0 := ⟨_, rfl⟩
  replace hl : lv_has ls 6 [(4, .int (nI j)), (3, .int (nI 24)), (2, .ref sl), (1, .int 0), (0, .ref x)] := by rw [ej, nI_0]; exact hl
  obtain ⟨nj, hnj⟩ : ∃ n, j + n = 24 := ⟨24, by omega⟩
  clear ej
  induction nj generalizing j ls  with
  | zero =>
    refine lv_iload hx hb dX6_unsoundSlots_13 (lv_at hl 0 rfl) ?_
    refine lv_iload_n hx hb dX6_unsoundSlots_15 rfl (lv_at hl 1 rfl) ?_
    refine lv_icmp_ge (tgt := 51) hx hb dX6_unsoundSlots_16 (by decide) (fun c16 => ?_) (fun c16 => ?_)
    · refine lv_iload_n hx hb dX6_unsoundSlots_51 rfl (lv_at hl 3 rfl) ?_
      exact q_iret C hP hS ⟨rfl, rfl⟩ (by omega) dX6_unsoundSlots_52
    · exact absurd ((nI_leI (a := 24) (b := j) (by omega) (by omega)).mpr (by omega)) c16
  | succ nj ihj =>
    refine lv_iload hx hb dX6_unsoundSlots_13 (lv_at hl 0 rfl) ?_
    refine lv_iload_n hx hb dX6_unsoundSlots_15 rfl (lv_at hl 1 rfl) ?_
    refine lv_icmp_ge (tgt := 51) hx hb dX6_unsoundSlots_16 (by decide) (fun c16 => ?_) (fun c16 => ?_)
    · exact absurd ((nI_leI (a := 24) (b := j) (by omega) (by omega)).mp c16) (by omega)
    · refine lv_aload_n hx hb dX6_unsoundSlots_19 rfl (lv_at hl 2 rfl) ?_
      refine lv_iload hx hb dX6_unsoundSlots_20 (lv_at hl 0 rfl) ?_
      refine q_aaldN C hP hsl rfl (by omega) (by omega) dX6_unsoundSlots_22 ?_
      rw [hF j (by omega)]
      refine lv_astoreN (lv' := [(5, .null), (4, .int (nI j)), (3, .int (nI 24)), (2, .ref sl), (1, .int 0), (0, .ref x)]) hx hb dX6_unsoundSlots_23 hl (by decide) rfl (fun ls hl => ?_)
      refine lv_aloadN hx hb dX6_unsoundSlots_25 (lv_at hl 0 rfl) ?_
      refine lv_ifnullN (tgt := 45) hx hb dX6_unsoundSlots_27 (by decide) ?_
      refine lv_iinc (v := nI (j + 1)) (lv' := [(4, .int (nI (j + 1))), (5, .null), (3, .int (nI 24)), (2, .ref sl), (1, .int 0), (0, .ref x)]) hx hb dX6_unsoundSlots_45 hl (k := 1) rfl (nI_1 j) (by decide) rfl (fun ls hl => ?_)
      refine lv_goto (tgt := 13) hx hb dX6_unsoundSlots_48 (by decide) ?_
      exact ihj (ls := ls) (j := j + 1) (hl := lv_sub hl [0, 2, 3, 4, 5] rfl) (hnj := by omega)

theorem dX6_count_0 : decode cX6_count 0 = .ok (.iload_n 1, 1) := by decide +kernel
theorem dX6_count_1 : decode cX6_count 1 = .ok (.iconst 3, 1) := by decide +kernel
theorem dX6_count_2 : decode cX6_count 2 = .ok (.invokestatic 43, 3) := by decide +kernel
theorem dX6_count_5 : decode cX6_count 5 = .ok (.iload_n 1, 1) := by decide +kernel
theorem dX6_count_6 : decode cX6_count 6 = .ok (.tableswitch 41 0 2 #[26, 31, 36], 26) := by decide +kernel
theorem dX6_count_32 : decode cX6_count 32 = .ok (.aload_n 0, 1) := by decide +kernel
theorem dX6_count_33 : decode cX6_count 33 = .ok (.getfield 357, 3) := by decide +kernel
theorem dX6_count_36 : decode cX6_count 36 = .ok (.ireturn, 1) := by decide +kernel
theorem dX6_count_37 : decode cX6_count 37 = .ok (.aload_n 0, 1) := by decide +kernel
theorem dX6_count_38 : decode cX6_count 38 = .ok (.getfield 360, 3) := by decide +kernel
theorem dX6_count_41 : decode cX6_count 41 = .ok (.ireturn, 1) := by decide +kernel
theorem dX6_count_42 : decode cX6_count 42 = .ok (.aload_n 0, 1) := by decide +kernel
theorem dX6_count_43 : decode cX6_count 43 = .ok (.invokevirtual 363, 3) := by decide +kernel
theorem dX6_count_46 : decode cX6_count 46 = .ok (.ireturn, 1) := by decide +kernel
theorem dX6_count_47 : decode cX6_count 47 = .ok (.aload_n 0, 1) := by decide +kernel
theorem dX6_count_48 : decode cX6_count 48 = .ok (.invokevirtual 366, 3) := by decide +kernel
theorem dX6_count_51 : decode cX6_count 51 = .ok (.ireturn, 1) := by decide +kernel
set_option maxRecDepth 100000 in
set_option maxHeartbeats 4000000 in
theorem c_X6_count_0 (l : Launch) (D : va_G) (cy : Nat → ClassId) (N0 : Nat) (h : qH) (x sl bl kr vr : Nat) (hm ed : Int32) (f : Nat → Option Nat) (g : Nat → Option Nat) (p0 : Int32) (hT : h x = some (.inr (6, [.int hm, .ref sl, .ref bl, .ref kr, .ref vr, .int 0, .int 0, .int ed]))) (hsl : h sl = some (.inl (cy 3, 24, .inr (.inr (.inr (.inr f)))))) (hF : ∀ i, i < 24 → f i = none) (hbl : h bl = some (.inl (cy 2, 4, .inr (.inr (.inr (.inr g)))))) (hB : ∀ j, j < 4 → ∃ (b rw : Nat) (kd ln e2 : Int32) (rt : Option Nat), qBd h g j b rw 0 kd ln e2 rt) : qC l D cy N0 yX6_count cX6_count 2 (some .int) 9 160 1 6 [.ref x, .int p0] h (fun v h' => h = h' ∧ v = some (.int 0) ∧ qIn p0 3) (fun E h' => h = h' ∧ E = "java/lang/IllegalArgumentException" ∧ ¬ qIn p0 3) := by
  refine q_ofW (by decide) (by exact Nat.le_of_ble_eq_true rfl) ?_
  intro p e s m below meth c ls C hP hl
  have hx := C.1
  have hb := C.2.1
  have hS : va_S (qA N0) s.heap s.heap [] := va_S.rf
  have hl : lv_has ls 2 [(0, .ref x), (1, .int p0)] := hl
  refine lv_iload_n hx hb dX6_count_0 rfl (lv_at hl 1 rfl) ?_
  refine lv_iconst (v := 3) hx hb dX6_count_1 (by decide) ?_
  refine q_callS (rest := []) C (c_X6_needWithin l D cy N0 (h) p0 3) kX6_needWithin g107 g108 hP hS (by first | decide | omega) hl.1 rfl (by decide) (by first | decide | omega) dX6_count_2 (fun q ce E h' H1 locs1 hE hP hS hc1 hc2 hc3 => by obtain ⟨rfl, rfl, hq⟩ := hE; exact q_out C hP hS hc1 hc2 hc3 ⟨rfl, rfl, fun g => hq.elim g.1 (fun q => q g.2)⟩ (by omega)) (fun v hh1 H locs hq hP hS => ?_)
  obtain ⟨rfl, rfl, gd1, gd2⟩ := hq; have gc0 : qIn p0 3 := ⟨gd1, gd2⟩
  refine lv_iload_n hx hb dX6_count_5 rfl (lv_at hl 1 rfl) ?_
  obtain ⟨k, hk, rfl⟩ := gc0.of3
  rcases (show k = 0 ∨ k = 1 ∨ k = 2 ∨ k = 3 by omega) with rfl | rfl | rfl | rfl
  · refine lv_tableIn (tgt := 32) (off := 26) hx hb dX6_count_6 (by decide +kernel) (by decide +kernel) (by decide +kernel) (by decide) ?_
    refine lv_aload_n hx hb dX6_count_32 rfl (lv_at hl 0 rfl) ?_
    refine q_get C hP hT rfl inX6 5 (by decide) g73 rfl dX6_count_33 ?_
    exact q_iret C hP hS ⟨rfl, rfl, gc0⟩ (by omega) dX6_count_36
  · refine lv_tableIn (tgt := 37) (off := 31) hx hb dX6_count_6 (by decide +kernel) (by decide +kernel) (by decide +kernel) (by decide) ?_
    refine lv_aload_n hx hb dX6_count_37 rfl (lv_at hl 0 rfl) ?_
    refine q_get C hP hT rfl inX6 6 (by decide) g74 rfl dX6_count_38 ?_
    exact q_iret C hP hS ⟨rfl, rfl, gc0⟩ (by omega) dX6_count_41
  · refine lv_tableIn (tgt := 42) (off := 36) hx hb dX6_count_6 (by decide +kernel) (by decide +kernel) (by decide +kernel) (by decide) ?_
    refine lv_aload_n hx hb dX6_count_42 rfl (lv_at hl 0 rfl) ?_
    refine q_callV (rest := []) C (c_X6_openBuilders_0 l D cy N0 (h) x sl bl kr vr hm 0 0 ed f g hT hsl hbl hB) kX6_openBuilders g1080 g1082 rfl gp36 g1 hP hS hT (by first | decide | omega) hl.1 rfl (by decide) (by first | decide | omega) dX6_count_43 (fun q ce E h' H1 locs1 hE => hE.elim) (fun v hh2 H locs hq hP hS => ?_)
    obtain ⟨rfl, rfl⟩ := hq
    exact q_iret C hP hS ⟨rfl, rfl, gc0⟩ (by omega) dX6_count_46
  · refine lv_tableOut (tgt := 47) hx hb dX6_count_6 (by decide +kernel) (by decide) ?_
    refine lv_aload_n hx hb dX6_count_47 rfl (lv_at hl 0 rfl) ?_
    refine q_callV (rest := []) C (c_X6_unsoundSlots_0 l D cy N0 (h) x sl bl kr vr hm 0 0 ed f hT hsl hF) kX6_unsoundSlots g1084 g1086 rfl gp37 g1 hP hS hT (by first | decide | omega) hl.1 rfl (by decide) (by first | decide | omega) dX6_count_48 (fun q ce E h' H1 locs1 hE => hE.elim) (fun v hh3 H locs hq hP hS => ?_)
    obtain ⟨rfl, rfl⟩ := hq
    exact q_iret C hP hS ⟨rfl, rfl, gc0⟩ (by omega) dX6_count_51
