def qIn (n k : Int32) : Prop := ¬ n < 0 ∧ n ≤ k
theorem qIn.of3 {x : Int32} (h : qIn x 3) : ∃ i : Nat, i < 4 ∧ x = nI i := by
  obtain ⟨j, hj, e⟩ := nI_of2 (M := 3) (n := 3) (by decide) h.1 h.2
  exact ⟨j, by omega, e⟩
/-- a builder -/
def qBd (h : qH) (g : Nat → Option Nat) (j : Nat) (b rw : Nat) (io kd ln e2 : Int32) (rt : Option Nat) : Prop := g j = some b ∧ h b = some (.inr (1, [.ref rw, .int io, .int kd, .int ln, va_rf rt, .int e2]))

theorem dX6_openBuilder_0 : decode cX6_openBuilder 0 = .ok (.aload_n 0, 1) := by decide +kernel
theorem dX6_openBuilder_1 : decode cX6_openBuilder 1 = .ok (.getfield 17, 3) := by decide +kernel
theorem dX6_openBuilder_4 : decode cX6_openBuilder 4 = .ok (.iload_n 1, 1) := by decide +kernel
theorem dX6_openBuilder_5 : decode cX6_openBuilder 5 = .ok (.aaload, 1) := by decide +kernel
theorem dX6_openBuilder_6 : decode cX6_openBuilder 6 = .ok (.astore_n 2, 1) := by decide +kernel
theorem dX6_openBuilder_7 : decode cX6_openBuilder 7 = .ok (.aload_n 2, 1) := by decide +kernel
theorem dX6_openBuilder_8 : decode cX6_openBuilder 8 = .ok (.getfield 315, 3) := by decide +kernel
theorem dX6_openBuilder_11 : decode cX6_openBuilder 11 = .ok (.ifCond .ne 14, 3) := by decide +kernel
theorem dX6_openBuilder_14 : decode cX6_openBuilder 14 = .ok (.new 319, 3) := by decide +kernel
theorem dX6_openBuilder_17 : decode cX6_openBuilder 17 = .ok (.dup, 1) := by decide +kernel
theorem dX6_openBuilder_18 : decode cX6_openBuilder 18 = .ok (.ldc_w 402, 3) := by decide +kernel
theorem dX6_openBuilder_21 : decode cX6_openBuilder 21 = .ok (.invokespecial 323, 3) := by decide +kernel
theorem dX6_openBuilder_24 : decode cX6_openBuilder 24 = .ok (.athrow, 1) := by decide +kernel
theorem dX6_openBuilder_25 : decode cX6_openBuilder 25 = .ok (.aload_n 2, 1) := by decide +kernel
theorem dX6_openBuilder_26 : decode cX6_openBuilder 26 = .ok (.areturn, 1) := by decide +kernel
set_option maxRecDepth 100000 in
set_option maxHeartbeats 4000000 in
theorem c_X6_openBuilder (l : Launch) (D : va_G) (cy : Nat → ClassId) (N0 : Nat) (h : qH) (x sl bl kr vr : Nat) (hm ca mv ed : Int32) (f : Nat → Option Nat) (g : Nat → Option Nat) (j b rw : Nat) (io kd ln e2 : Int32) (rt : Option Nat) (hT : h x = some (.inr (6, [.int hm, .ref sl, .ref bl, .ref kr, .ref vr, .int ca, .int mv, .int ed]))) (hsl : h sl = some (.inl (cy 3, 24, .inr (.inr (.inr (.inr f)))))) (hbl : h bl = some (.inl (cy 2, 4, .inr (.inr (.inr (.inr g)))))) (hj : j < 4) (hb2 : qBd h g j b rw io kd ln e2 rt) : qC l D cy N0 yX6_openBuilder cX6_openBuilder 3 (some (.object RX1)) 6 82 1 6 [.ref x, .int (nI j)] h (fun v h' => h = h' ∧ v = some (.ref b) ∧ ¬ io = 0) (fun E h' => h = h' ∧ E = "java/lang/IllegalStateException" ∧ io = 0) := by
  refine q_ofW (by decide) (by exact Nat.le_of_ble_eq_true rfl) ?_
  intro p e s m below meth c ls C hP hl
  have hx := C.1
  have hb := C.2.1
  have hS : va_S (qA N0) s.heap s.heap [] := va_S.rf
  have hl : lv_has ls 3 [(0, .ref x), (1, .int (nI j))] := hl
  obtain ⟨hgj, hB⟩ := hb2
  refine lv_aload_n hx hb dX6_openBuilder_0 rfl (lv_at hl 0 rfl) ?_
  refine q_get C hP hT rfl inX6 2 (by decide) g70 rfl dX6_openBuilder_1 ?_
  refine lv_iload_n hx hb dX6_openBuilder_4 rfl (lv_at hl 1 rfl) ?_
  refine q_aaldN C hP hbl rfl (by omega) (by omega) dX6_openBuilder_5 ?_
  rw [hgj]
  refine lv_astore_n (lv' := [(2, .ref b), (0, .ref x), (1, .int (nI j))]) hx hb dX6_openBuilder_6 rfl hl (by decide) rfl (fun ls hl => ?_)
  refine lv_aload_n hx hb dX6_openBuilder_7 rfl (lv_at hl 0 rfl) ?_
  refine q_getN C hP hB rfl inX1 1 (by decide) (by decide +kernel) rfl dX6_openBuilder_8 ?_
  refine lv_if_ne (tgt := 25) hx hb dX6_openBuilder_11 (by decide) (fun c11 => ?_) (fun c11 => ?_)
  · refine lv_aload_n hx hb dX6_openBuilder_25 rfl (lv_at hl 0 rfl) ?_
    exact q_aret (v := some b) C (Or.inl ⟨_, rfl⟩) hP hS ⟨rfl, rfl, c11⟩ (by omega) dX6_openBuilder_26
  · exact q_throw (text := "the builder is not open") C kt_ISE (by decide) hP hS hl.1 dX6_openBuilder_14 dX6_openBuilder_17 dX6_openBuilder_18 dX6_openBuilder_21 dX6_openBuilder_24 (by simp [q_catrf, q_cati, q_catl, q_cata, q_catn]) (by omega) ⟨rfl, rfl, c11⟩

theorem dX6_copy_0 : decode cX6_copy 0 = .ok (.iload_n 1, 1) := by decide +kernel
theorem dX6_copy_1 : decode cX6_copy 1 = .ok (.invokestatic 39, 3) := by decide +kernel
theorem dX6_copy_4 : decode cX6_copy 4 = .ok (.aload_n 0, 1) := by decide +kernel
theorem dX6_copy_5 : decode cX6_copy 5 = .ok (.iload_n 1, 1) := by decide +kernel
theorem dX6_copy_6 : decode cX6_copy 6 = .ok (.aload_n 0, 1) := by decide +kernel
theorem dX6_copy_7 : decode cX6_copy 7 = .ok (.iload_n 2, 1) := by decide +kernel
theorem dX6_copy_8 : decode cX6_copy 8 = .ok (.bipush 127, 2) := by decide +kernel
theorem dX6_copy_10 : decode cX6_copy 10 = .ok (.invokevirtual 55, 3) := by decide +kernel
set_option maxRecDepth 100000 in
set_option maxHeartbeats 4000000 in
theorem c_X6_copy_0 (l : Launch) (D : va_G) (cy : Nat → ClassId) (N0 : Nat) (h : qH) (x sl bl kr vr : Nat) (hm ca mv ed : Int32) (f : Nat → Option Nat) (p0 : Int32) (p1 : Int32) (hT : h x = some (.inr (6, [.int hm, .ref sl, .ref bl, .ref kr, .ref vr, .int ca, .int mv, .int ed]))) (hsl : h sl = some (.inl (cy 3, 24, .inr (.inr (.inr (.inr f)))))) (hF : ∀ i, i < 24 → f i = none) : qC l D cy N0 yX6_copy cX6_copy 3 none 9 160 6 36 [.ref x, .int p0, .int p1] h (fun v h' => False) (fun E h' => h = h' ∧ ((E = "java/lang/IllegalArgumentException" ∧ ¬ (qSl p0 ∧ qSl p1)) ∨ (E = "java/lang/IllegalStateException" ∧ qSl p0 ∧ qSl p1))) := by
  refine q_ofW (by decide) (by exact Nat.le_of_ble_eq_true rfl) ?_
  intro p e s m below meth c ls C hP hl
  have hx := C.1
  have hb := C.2.1
  have hS : va_S (qA N0) s.heap s.heap [] := va_S.rf
  have hl : lv_has ls 3 [(0, .ref x), (1, .int p0), (2, .int p1)] := hl
  refine lv_iload_n hx hb dX6_copy_0 rfl (lv_at hl 1 rfl) ?_
  refine q_callS (rest := []) C (c_X6_needSlot l D cy N0 (h) p0) kX6_needSlot g104 g105 hP hS (by first | decide | omega) hl.1 rfl (by decide) (by first | decide | omega) dX6_copy_1 (fun q ce E h' H1 locs1 hE hP hS hc1 hc2 hc3 => by obtain ⟨rfl, rfl, hq⟩ := hE; exact q_out C hP hS hc1 hc2 hc3 ⟨rfl, Or.inl ⟨rfl, fun g => hq g.1⟩⟩ (by omega)) (fun v hh1 H locs hq hP hS => ?_)
  obtain ⟨rfl, rfl, gc0⟩ := hq
  refine lv_aload_n hx hb dX6_copy_4 rfl (lv_at hl 0 rfl) ?_
  refine lv_iload_n hx hb dX6_copy_5 rfl (lv_at hl 1 rfl) ?_
  refine lv_aload_n hx hb dX6_copy_6 rfl (lv_at hl 0 rfl) ?_
  refine lv_iload_n hx hb dX6_copy_7 rfl (lv_at hl 2 rfl) ?_
  refine lv_bipush (v := 127) hx hb dX6_copy_8 (by decide) ?_
  refine q_callV (rest := [.int p0, .ref x]) C (c_X6_heldIn l D cy N0 (h) x sl bl kr vr hm ca mv ed f p1 127 hT hsl (fun i hi a e => by rw [hF i hi] at e; cases e)) kX6_heldIn g243 g245 rfl gp2 g1 hP hS hT (by first | decide | omega) hl.1 rfl (by simp [q_catrf, q_cati, q_catl, q_cata, q_catn]) (by first | decide | omega) dX6_copy_10 (fun q ce E h' H1 locs1 hE hP hS hc1 hc2 hc3 => by obtain ⟨rfl, hE⟩ := hE; exact q_out C hP hS hc1 hc2 hc3 ⟨rfl, hE.elim (fun z => Or.inl ⟨z.1, fun g => z.2 g.2⟩) (fun z => Or.inr ⟨z.1, by obtain ⟨-, i, hi, ei, -⟩ := z; have gl : qSl p1 := (by rw [ei]; exact qSl.nI hi); exact ⟨gc0, gl⟩⟩)⟩ (by omega)) (fun v hh2 H locs hq hP hS => ?_)
  obtain ⟨-, i, a, -, -, -, -, -, -, -, hi, -, hfi, -⟩ := hq
  rw [hF i hi] at hfi; cases hfi

theorem dX6_size_0 : decode cX6_size 0 = .ok (.aload_n 0, 1) := by decide +kernel
theorem dX6_size_1 : decode cX6_size 1 = .ok (.iload_n 1, 1) := by decide +kernel
theorem dX6_size_2 : decode cX6_size 2 = .ok (.bipush 63, 2) := by decide +kernel
theorem dX6_size_4 : decode cX6_size 4 = .ok (.invokevirtual 55, 3) := by decide +kernel
set_option maxRecDepth 100000 in
set_option maxHeartbeats 4000000 in
theorem c_X6_size_0 (l : Launch) (D : va_G) (cy : Nat → ClassId) (N0 : Nat) (h : qH) (x sl bl kr vr : Nat) (hm ca mv ed : Int32) (f : Nat → Option Nat) (p0 : Int32) (hT : h x = some (.inr (6, [.int hm, .ref sl, .ref bl, .ref kr, .ref vr, .int ca, .int mv, .int ed]))) (hsl : h sl = some (.inl (cy 3, 24, .inr (.inr (.inr (.inr f)))))) (hF : ∀ i, i < 24 → f i = none) : qC l D cy N0 yX6_size cX6_size 2 (some .int) 9 160 6 36 [.ref x, .int p0] h (fun v h' => False) (fun E h' => h = h' ∧ ((E = "java/lang/IllegalArgumentException" ∧ ¬ (qSl p0)) ∨ (E = "java/lang/IllegalStateException" ∧ qSl p0))) := by
  refine q_ofW (by decide) (by exact Nat.le_of_ble_eq_true rfl) ?_
  intro p e s m below meth c ls C hP hl
  have hx := C.1
  have hb := C.2.1
  have hS : va_S (qA N0) s.heap s.heap [] := va_S.rf
  have hl : lv_has ls 2 [(0, .ref x), (1, .int p0)] := hl
  refine lv_aload_n hx hb dX6_size_0 rfl (lv_at hl 0 rfl) ?_
  refine lv_iload_n hx hb dX6_size_1 rfl (lv_at hl 1 rfl) ?_
  refine lv_bipush (v := 63) hx hb dX6_size_2 (by decide) ?_
  refine q_callV (rest := []) C (c_X6_heldIn l D cy N0 (h) x sl bl kr vr hm ca mv ed f p0 63 hT hsl (fun i hi a e => by rw [hF i hi] at e; cases e)) kX6_heldIn g243 g245 rfl gp2 g1 hP hS hT (by first | decide | omega) hl.1 rfl (by decide) (by first | decide | omega) dX6_size_4 (fun q ce E h' H1 locs1 hE hP hS hc1 hc2 hc3 => by obtain ⟨rfl, hE⟩ := hE; exact q_out C hP hS hc1 hc2 hc3 ⟨rfl, hE.elim (fun z => Or.inl ⟨z.1, fun g => z.2 g⟩) (fun z => Or.inr ⟨z.1, by obtain ⟨-, i, hi, ei, -⟩ := z; have gl : qSl p0 := (by rw [ei]; exact qSl.nI hi); exact gl⟩)⟩ (by omega)) (fun v hh1 H locs hq hP hS => ?_)
  obtain ⟨-, i, a, -, -, -, -, -, -, -, hi, -, hfi, -⟩ := hq
  rw [hF i hi] at hfi; cases hfi

theorem dX6_add_0 : decode cX6_add 0 = .ok (.iload_n 1, 1) := by decide +kernel
theorem dX6_add_1 : decode cX6_add 1 = .ok (.invokestatic 39, 3) := by decide +kernel
theorem dX6_add_4 : decode cX6_add 4 = .ok (.aload_n 0, 1) := by decide +kernel
theorem dX6_add_5 : decode cX6_add 5 = .ok (.iload_n 2, 1) := by decide +kernel
theorem dX6_add_6 : decode cX6_add 6 = .ok (.bipush 53, 2) := by decide +kernel
theorem dX6_add_8 : decode cX6_add 8 = .ok (.invokevirtual 55, 3) := by decide +kernel
set_option maxRecDepth 100000 in
set_option maxHeartbeats 4000000 in
theorem c_X6_add_0 (l : Launch) (D : va_G) (cy : Nat → ClassId) (N0 : Nat) (h : qH) (x sl bl kr vr : Nat) (hm ca mv ed : Int32) (f : Nat → Option Nat) (p0 : Int32) (p1 : Int32) (p2 : Int64) (hT : h x = some (.inr (6, [.int hm, .ref sl, .ref bl, .ref kr, .ref vr, .int ca, .int mv, .int ed]))) (hsl : h sl = some (.inl (cy 3, 24, .inr (.inr (.inr (.inr f)))))) (hF : ∀ i, i < 24 → f i = none) : qC l D cy N0 yX6_add cX6_add 6 (some .int) 9 160 6 36 [.ref x, .int p0, .int p1, .long p2] h (fun v h' => False) (fun E h' => h = h' ∧ ((E = "java/lang/IllegalArgumentException" ∧ ¬ (qSl p0 ∧ qSl p1)) ∨ (E = "java/lang/IllegalStateException" ∧ qSl p0 ∧ qSl p1))) := by
  refine q_ofW (by decide) (by exact Nat.le_of_ble_eq_true rfl) ?_
  intro p e s m below meth c ls C hP hl
  have hx := C.1
  have hb := C.2.1
  have hS : va_S (qA N0) s.heap s.heap [] := va_S.rf
  have hl : lv_has ls 6 [(0, .ref x), (1, .int p0), (2, .int p1), (3, .long p2)] := hl
  refine lv_iload_n hx hb dX6_add_0 rfl (lv_at hl 1 rfl) ?_
  refine q_callS (rest := []) C (c_X6_needSlot l D cy N0 (h) p0) kX6_needSlot g104 g105 hP hS (by first | decide | omega) hl.1 rfl (by decide) (by first | decide | omega) dX6_add_1 (fun q ce E h' H1 locs1 hE hP hS hc1 hc2 hc3 => by obtain ⟨rfl, rfl, hq⟩ := hE; exact q_out C hP hS hc1 hc2 hc3 ⟨rfl, Or.inl ⟨rfl, fun g => hq g.1⟩⟩ (by omega)) (fun v hh1 H locs hq hP hS => ?_)
  obtain ⟨rfl, rfl, gc0⟩ := hq
  refine lv_aload_n hx hb dX6_add_4 rfl (lv_at hl 0 rfl) ?_
  refine lv_iload_n hx hb dX6_add_5 rfl (lv_at hl 2 rfl) ?_
  refine lv_bipush (v := 53) hx hb dX6_add_6 (by decide) ?_
  refine q_callV (rest := []) C (c_X6_heldIn l D cy N0 (h) x sl bl kr vr hm ca mv ed f p1 53 hT hsl (fun i hi a e => by rw [hF i hi] at e; cases e)) kX6_heldIn g243 g245 rfl gp2 g1 hP hS hT (by first | decide | omega) hl.1 rfl (by decide) (by first | decide | omega) dX6_add_8 (fun q ce E h' H1 locs1 hE hP hS hc1 hc2 hc3 => by obtain ⟨rfl, hE⟩ := hE; exact q_out C hP hS hc1 hc2 hc3 ⟨rfl, hE.elim (fun z => Or.inl ⟨z.1, fun g => z.2 g.2⟩) (fun z => Or.inr ⟨z.1, by obtain ⟨-, i, hi, ei, -⟩ := z; have gl : qSl p1 := (by rw [ei]; exact qSl.nI hi); exact ⟨gc0, gl⟩⟩)⟩ (by omega)) (fun v hh2 H locs hq hP hS => ?_)
  obtain ⟨-, i, a, -, -, -, -, -, -, -, hi, -, hfi, -⟩ := hq
  rw [hF i hi] at hfi; cases hfi

theorem dX6_push_0 : decode cX6_push 0 = .ok (.iload_n 1, 1) := by decide +kernel
theorem dX6_push_1 : decode cX6_push 1 = .ok (.invokestatic 39, 3) := by decide +kernel
theorem dX6_push_4 : decode cX6_push 4 = .ok (.aload_n 0, 1) := by decide +kernel
theorem dX6_push_5 : decode cX6_push 5 = .ok (.iload_n 2, 1) := by decide +kernel
theorem dX6_push_6 : decode cX6_push 6 = .ok (.bipush 65, 2) := by decide +kernel
theorem dX6_push_8 : decode cX6_push 8 = .ok (.invokevirtual 55, 3) := by decide +kernel
set_option maxRecDepth 100000 in
set_option maxHeartbeats 4000000 in
theorem c_X6_push_0 (l : Launch) (D : va_G) (cy : Nat → ClassId) (N0 : Nat) (h : qH) (x sl bl kr vr : Nat) (hm ca mv ed : Int32) (f : Nat → Option Nat) (p0 : Int32) (p1 : Int32) (p2 : Int64) (hT : h x = some (.inr (6, [.int hm, .ref sl, .ref bl, .ref kr, .ref vr, .int ca, .int mv, .int ed]))) (hsl : h sl = some (.inl (cy 3, 24, .inr (.inr (.inr (.inr f)))))) (hF : ∀ i, i < 24 → f i = none) : qC l D cy N0 yX6_push cX6_push 6 none 9 160 6 36 [.ref x, .int p0, .int p1, .long p2] h (fun v h' => False) (fun E h' => h = h' ∧ ((E = "java/lang/IllegalArgumentException" ∧ ¬ (qSl p0 ∧ qSl p1)) ∨ (E = "java/lang/IllegalStateException" ∧ qSl p0 ∧ qSl p1))) := by
  refine q_ofW (by decide) (by exact Nat.le_of_ble_eq_true rfl) ?_
  intro p e s m below meth c ls C hP hl
  have hx := C.1
  have hb := C.2.1
  have hS : va_S (qA N0) s.heap s.heap [] := va_S.rf
  have hl : lv_has ls 6 [(0, .ref x), (1, .int p0), (2, .int p1), (3, .long p2)] := hl
  refine lv_iload_n hx hb dX6_push_0 rfl (lv_at hl 1 rfl) ?_
  refine q_callS (rest := []) C (c_X6_needSlot l D cy N0 (h) p0) kX6_needSlot g104 g105 hP hS (by first | decide | omega) hl.1 rfl (by decide) (by first | decide | omega) dX6_push_1 (fun q ce E h' H1 locs1 hE hP hS hc1 hc2 hc3 => by obtain ⟨rfl, rfl, hq⟩ := hE; exact q_out C hP hS hc1 hc2 hc3 ⟨rfl, Or.inl ⟨rfl, fun g => hq g.1⟩⟩ (by omega)) (fun v hh1 H locs hq hP hS => ?_)
  obtain ⟨rfl, rfl, gc0⟩ := hq
  refine lv_aload_n hx hb dX6_push_4 rfl (lv_at hl 0 rfl) ?_
  refine lv_iload_n hx hb dX6_push_5 rfl (lv_at hl 2 rfl) ?_
  refine lv_bipush (v := 65) hx hb dX6_push_6 (by decide) ?_
  refine q_callV (rest := []) C (c_X6_heldIn l D cy N0 (h) x sl bl kr vr hm ca mv ed f p1 65 hT hsl (fun i hi a e => by rw [hF i hi] at e; cases e)) kX6_heldIn g243 g245 rfl gp2 g1 hP hS hT (by first | decide | omega) hl.1 rfl (by decide) (by first | decide | omega) dX6_push_8 (fun q ce E h' H1 locs1 hE hP hS hc1 hc2 hc3 => by obtain ⟨rfl, hE⟩ := hE; exact q_out C hP hS hc1 hc2 hc3 ⟨rfl, hE.elim (fun z => Or.inl ⟨z.1, fun g => z.2 g.2⟩) (fun z => Or.inr ⟨z.1, by obtain ⟨-, i, hi, ei, -⟩ := z; have gl : qSl p1 := (by rw [ei]; exact qSl.nI hi); exact ⟨gc0, gl⟩⟩)⟩ (by omega)) (fun v hh2 H locs hq hP hS => ?_)
  obtain ⟨-, i, a, -, -, -, -, -, -, -, hi, -, hfi, -⟩ := hq
  rw [hF i hi] at hfi; cases hfi

theorem dX6_set_0 : decode cX6_set 0 = .ok (.iload_n 1, 1) := by decide +kernel
theorem dX6_set_1 : decode cX6_set 1 = .ok (.invokestatic 39, 3) := by decide +kernel
theorem dX6_set_4 : decode cX6_set 4 = .ok (.aload_n 0, 1) := by decide +kernel
theorem dX6_set_5 : decode cX6_set 5 = .ok (.iload_n 2, 1) := by decide +kernel
theorem dX6_set_6 : decode cX6_set 6 = .ok (.iconst 1, 1) := by decide +kernel
theorem dX6_set_7 : decode cX6_set 7 = .ok (.invokevirtual 55, 3) := by decide +kernel
set_option maxRecDepth 100000 in
set_option maxHeartbeats 4000000 in
theorem c_X6_set_0 (l : Launch) (D : va_G) (cy : Nat → ClassId) (N0 : Nat) (h : qH) (x sl bl kr vr : Nat) (hm ca mv ed : Int32) (f : Nat → Option Nat) (p0 : Int32) (p1 : Int32) (p2 : Int32) (p3 : Int64) (hT : h x = some (.inr (6, [.int hm, .ref sl, .ref bl, .ref kr, .ref vr, .int ca, .int mv, .int ed]))) (hsl : h sl = some (.inl (cy 3, 24, .inr (.inr (.inr (.inr f)))))) (hF : ∀ i, i < 24 → f i = none) : qC l D cy N0 yX6_set cX6_set 9 (some .long) 9 160 6 36 [.ref x, .int p0, .int p1, .int p2, .long p3] h (fun v h' => False) (fun E h' => h = h' ∧ ((E = "java/lang/IllegalArgumentException" ∧ ¬ (qSl p0 ∧ qSl p1)) ∨ (E = "java/lang/IllegalStateException" ∧ qSl p0 ∧ qSl p1))) := by
  refine q_ofW (by decide) (by exact Nat.le_of_ble_eq_true rfl) ?_
  intro p e s m below meth c ls C hP hl
  have hx := C.1
  have hb := C.2.1
  have hS : va_S (qA N0) s.heap s.heap [] := va_S.rf
  have hl : lv_has ls 9 [(0, .ref x), (1, .int p0), (2, .int p1), (3, .int p2), (4, .long p3)] := hl
  refine lv_iload_n hx hb dX6_set_0 rfl (lv_at hl 1 rfl) ?_
  refine q_callS (rest := []) C (c_X6_needSlot l D cy N0 (h) p0) kX6_needSlot g104 g105 hP hS (by first | decide | omega) hl.1 rfl (by decide) (by first | decide | omega) dX6_set_1 (fun q ce E h' H1 locs1 hE hP hS hc1 hc2 hc3 => by obtain ⟨rfl, rfl, hq⟩ := hE; exact q_out C hP hS hc1 hc2 hc3 ⟨rfl, Or.inl ⟨rfl, fun g => hq g.1⟩⟩ (by omega)) (fun v hh1 H locs hq hP hS => ?_)
  obtain ⟨rfl, rfl, gc0⟩ := hq
  refine lv_aload_n hx hb dX6_set_4 rfl (lv_at hl 0 rfl) ?_
  refine lv_iload_n hx hb dX6_set_5 rfl (lv_at hl 2 rfl) ?_
  refine lv_iconst (v := 1) hx hb dX6_set_6 (by decide) ?_
  refine q_callV (rest := []) C (c_X6_heldIn l D cy N0 (h) x sl bl kr vr hm ca mv ed f p1 1 hT hsl (fun i hi a e => by rw [hF i hi] at e; cases e)) kX6_heldIn g243 g245 rfl gp2 g1 hP hS hT (by first | decide | omega) hl.1 rfl (by decide) (by first | decide | omega) dX6_set_7 (fun q ce E h' H1 locs1 hE hP hS hc1 hc2 hc3 => by obtain ⟨rfl, hE⟩ := hE; exact q_out C hP hS hc1 hc2 hc3 ⟨rfl, hE.elim (fun z => Or.inl ⟨z.1, fun g => z.2 g.2⟩) (fun z => Or.inr ⟨z.1, by obtain ⟨-, i, hi, ei, -⟩ := z; have gl : qSl p1 := (by rw [ei]; exact qSl.nI hi); exact ⟨gc0, gl⟩⟩)⟩ (by omega)) (fun v hh2 H locs hq hP hS => ?_)
  obtain ⟨-, i, a, -, -, -, -, -, -, -, hi, -, hfi, -⟩ := hq
  rw [hF i hi] at hfi; cases hfi

theorem dX6_at_0 : decode cX6_at 0 = .ok (.iload_n 1, 1) := by decide +kernel
theorem dX6_at_1 : decode cX6_at 1 = .ok (.invokestatic 39, 3) := by decide +kernel
theorem dX6_at_4 : decode cX6_at 4 = .ok (.iload_n 2, 1) := by decide +kernel
theorem dX6_at_5 : decode cX6_at 5 = .ok (.invokestatic 148, 3) := by decide +kernel
theorem dX6_at_8 : decode cX6_at 8 = .ok (.aload_n 0, 1) := by decide +kernel
theorem dX6_at_9 : decode cX6_at 9 = .ok (.iload_n 1, 1) := by decide +kernel
theorem dX6_at_10 : decode cX6_at 10 = .ok (.bipush 79, 2) := by decide +kernel
theorem dX6_at_12 : decode cX6_at 12 = .ok (.invokevirtual 55, 3) := by decide +kernel
set_option maxRecDepth 100000 in
set_option maxHeartbeats 4000000 in
theorem c_X6_at_0 (l : Launch) (D : va_G) (cy : Nat → ClassId) (N0 : Nat) (h : qH) (x sl bl kr vr : Nat) (hm ca mv ed : Int32) (f : Nat → Option Nat) (p0 : Int32) (p1 : Int32) (hT : h x = some (.inr (6, [.int hm, .ref sl, .ref bl, .ref kr, .ref vr, .int ca, .int mv, .int ed]))) (hsl : h sl = some (.inl (cy 3, 24, .inr (.inr (.inr (.inr f)))))) (hF : ∀ i, i < 24 → f i = none) : qC l D cy N0 yX6_at cX6_at 4 (some .long) 9 160 6 36 [.ref x, .int p0, .int p1] h (fun v h' => False) (fun E h' => h = h' ∧ ((E = "java/lang/IllegalArgumentException" ∧ ¬ (qSl p0 ∧ ¬ p1 < 0)) ∨ (E = "java/lang/IllegalStateException" ∧ qSl p0 ∧ ¬ p1 < 0))) := by
  refine q_ofW (by decide) (by exact Nat.le_of_ble_eq_true rfl) ?_
  intro p e s m below meth c ls C hP hl
  have hx := C.1
  have hb := C.2.1
  have hS : va_S (qA N0) s.heap s.heap [] := va_S.rf
  have hl : lv_has ls 4 [(0, .ref x), (1, .int p0), (2, .int p1)] := hl
  refine lv_iload_n hx hb dX6_at_0 rfl (lv_at hl 1 rfl) ?_
  refine q_callS (rest := []) C (c_X6_needSlot l D cy N0 (h) p0) kX6_needSlot g104 g105 hP hS (by first | decide | omega) hl.1 rfl (by decide) (by first | decide | omega) dX6_at_1 (fun q ce E h' H1 locs1 hE hP hS hc1 hc2 hc3 => by obtain ⟨rfl, rfl, hq⟩ := hE; exact q_out C hP hS hc1 hc2 hc3 ⟨rfl, Or.inl ⟨rfl, fun g => hq g.1⟩⟩ (by omega)) (fun v hh1 H locs hq hP hS => ?_)
  obtain ⟨rfl, rfl, gc0⟩ := hq
  refine lv_iload_n hx hb dX6_at_4 rfl (lv_at hl 2 rfl) ?_
  refine q_callS (rest := []) C (c_X6_needNotNegative l D cy N0 (h) p1) kX6_needNotNegative g629 g630 hP hS (by first | decide | omega) hl.1 rfl (by decide) (by first | decide | omega) dX6_at_5 (fun q ce E h' H1 locs1 hE hP hS hc1 hc2 hc3 => by obtain ⟨rfl, rfl, hq⟩ := hE; exact q_out C hP hS hc1 hc2 hc3 ⟨rfl, Or.inl ⟨rfl, fun g => g.2 hq⟩⟩ (by omega)) (fun v hh2 H locs hq hP hS => ?_)
  obtain ⟨rfl, rfl, gc1⟩ := hq
  refine lv_aload_n hx hb dX6_at_8 rfl (lv_at hl 0 rfl) ?_
  refine lv_iload_n hx hb dX6_at_9 rfl (lv_at hl 1 rfl) ?_
  refine lv_bipush (v := 79) hx hb dX6_at_10 (by decide) ?_
  refine q_callV (rest := []) C (c_X6_heldIn l D cy N0 (h) x sl bl kr vr hm ca mv ed f p0 79 hT hsl (fun i hi a e => by rw [hF i hi] at e; cases e)) kX6_heldIn g243 g245 rfl gp2 g1 hP hS hT (by first | decide | omega) hl.1 rfl (by decide) (by first | decide | omega) dX6_at_12 (fun q ce E h' H1 locs1 hE hP hS hc1 hc2 hc3 => by obtain ⟨rfl, hE⟩ := hE; exact q_out C hP hS hc1 hc2 hc3 ⟨rfl, hE.elim (fun z => Or.inl ⟨z.1, fun g => z.2 g.1⟩) (fun z => Or.inr ⟨z.1, by obtain ⟨-, i, hi, ei, -⟩ := z; have gl : qSl p0 := (by rw [ei]; exact qSl.nI hi); exact ⟨gl, gc1⟩⟩)⟩ (by omega)) (fun v hh3 H locs hq hP hS => ?_)
  obtain ⟨-, i, a, -, -, -, -, -, -, -, hi, -, hfi, -⟩ := hq
  rw [hF i hi] at hfi; cases hfi

theorem dX6_drop_0 : decode cX6_drop 0 = .ok (.iload_n 1, 1) := by decide +kernel
theorem dX6_drop_1 : decode cX6_drop 1 = .ok (.invokestatic 39, 3) := by decide +kernel
theorem dX6_drop_4 : decode cX6_drop 4 = .ok (.iload_n 2, 1) := by decide +kernel
theorem dX6_drop_5 : decode cX6_drop 5 = .ok (.invokestatic 39, 3) := by decide +kernel
theorem dX6_drop_8 : decode cX6_drop 8 = .ok (.iload_n 3, 1) := by decide +kernel
theorem dX6_drop_9 : decode cX6_drop 9 = .ok (.invokestatic 148, 3) := by decide +kernel
theorem dX6_drop_12 : decode cX6_drop 12 = .ok (.aload_n 0, 1) := by decide +kernel
theorem dX6_drop_13 : decode cX6_drop 13 = .ok (.iload_n 2, 1) := by decide +kernel
theorem dX6_drop_14 : decode cX6_drop 14 = .ok (.iconst 1, 1) := by decide +kernel
theorem dX6_drop_15 : decode cX6_drop 15 = .ok (.invokevirtual 55, 3) := by decide +kernel
set_option maxRecDepth 100000 in
set_option maxHeartbeats 4000000 in
theorem c_X6_drop_0 (l : Launch) (D : va_G) (cy : Nat → ClassId) (N0 : Nat) (h : qH) (x sl bl kr vr : Nat) (hm ca mv ed : Int32) (f : Nat → Option Nat) (p0 : Int32) (p1 : Int32) (p2 : Int32) (p3 : Int32) (hT : h x = some (.inr (6, [.int hm, .ref sl, .ref bl, .ref kr, .ref vr, .int ca, .int mv, .int ed]))) (hsl : h sl = some (.inl (cy 3, 24, .inr (.inr (.inr (.inr f)))))) (hF : ∀ i, i < 24 → f i = none) : qC l D cy N0 yX6_drop cX6_drop 8 (some .int) 9 160 6 36 [.ref x, .int p0, .int p1, .int p2, .int p3] h (fun v h' => False) (fun E h' => h = h' ∧ ((E = "java/lang/IllegalArgumentException" ∧ ¬ (qSl p0 ∧ qSl p1 ∧ ¬ p2 < 0)) ∨ (E = "java/lang/IllegalStateException" ∧ qSl p0 ∧ qSl p1 ∧ ¬ p2 < 0))) := by
  refine q_ofW (by decide) (by exact Nat.le_of_ble_eq_true rfl) ?_
  intro p e s m below meth c ls C hP hl
  have hx := C.1
  have hb := C.2.1
  have hS : va_S (qA N0) s.heap s.heap [] := va_S.rf
  have hl : lv_has ls 8 [(0, .ref x), (1, .int p0), (2, .int p1), (3, .int p2), (4, .int p3)] := hl
  refine lv_iload_n hx hb dX6_drop_0 rfl (lv_at hl 1 rfl) ?_
  refine q_callS (rest := []) C (c_X6_needSlot l D cy N0 (h) p0) kX6_needSlot g104 g105 hP hS (by first | decide | omega) hl.1 rfl (by decide) (by first | decide | omega) dX6_drop_1 (fun q ce E h' H1 locs1 hE hP hS hc1 hc2 hc3 => by obtain ⟨rfl, rfl, hq⟩ := hE; exact q_out C hP hS hc1 hc2 hc3 ⟨rfl, Or.inl ⟨rfl, fun g => hq g.1⟩⟩ (by omega)) (fun v hh1 H locs hq hP hS => ?_)
  obtain ⟨rfl, rfl, gc0⟩ := hq
  refine lv_iload_n hx hb dX6_drop_4 rfl (lv_at hl 2 rfl) ?_
  refine q_callS (rest := []) C (c_X6_needSlot l D cy N0 (h) p1) kX6_needSlot g104 g105 hP hS (by first | decide | omega) hl.1 rfl (by decide) (by first | decide | omega) dX6_drop_5 (fun q ce E h' H1 locs1 hE hP hS hc1 hc2 hc3 => by obtain ⟨rfl, rfl, hq⟩ := hE; exact q_out C hP hS hc1 hc2 hc3 ⟨rfl, Or.inl ⟨rfl, fun g => hq g.2.1⟩⟩ (by omega)) (fun v hh2 H locs hq hP hS => ?_)
  obtain ⟨rfl, rfl, gc1⟩ := hq
  refine lv_iload_n hx hb dX6_drop_8 rfl (lv_at hl 3 rfl) ?_
  refine q_callS (rest := []) C (c_X6_needNotNegative l D cy N0 (h) p2) kX6_needNotNegative g629 g630 hP hS (by first | decide | omega) hl.1 rfl (by decide) (by first | decide | omega) dX6_drop_9 (fun q ce E h' H1 locs1 hE hP hS hc1 hc2 hc3 => by obtain ⟨rfl, rfl, hq⟩ := hE; exact q_out C hP hS hc1 hc2 hc3 ⟨rfl, Or.inl ⟨rfl, fun g => g.2.2 hq⟩⟩ (by omega)) (fun v hh3 H locs hq hP hS => ?_)
  obtain ⟨rfl, rfl, gc2⟩ := hq
  refine lv_aload_n hx hb dX6_drop_12 rfl (lv_at hl 0 rfl) ?_
  refine lv_iload_n hx hb dX6_drop_13 rfl (lv_at hl 2 rfl) ?_
  refine lv_iconst (v := 1) hx hb dX6_drop_14 (by decide) ?_
  refine q_callV (rest := []) C (c_X6_heldIn l D cy N0 (h) x sl bl kr vr hm ca mv ed f p1 1 hT hsl (fun i hi a e => by rw [hF i hi] at e; cases e)) kX6_heldIn g243 g245 rfl gp2 g1 hP hS hT (by first | decide | omega) hl.1 rfl (by decide) (by first | decide | omega) dX6_drop_15 (fun q ce E h' H1 locs1 hE hP hS hc1 hc2 hc3 => by obtain ⟨rfl, hE⟩ := hE; exact q_out C hP hS hc1 hc2 hc3 ⟨rfl, hE.elim (fun z => Or.inl ⟨z.1, fun g => z.2 g.2.1⟩) (fun z => Or.inr ⟨z.1, by obtain ⟨-, i, hi, ei, -⟩ := z; have gl : qSl p1 := (by rw [ei]; exact qSl.nI hi); exact ⟨gc0, gl, gc2⟩⟩)⟩ (by omega)) (fun v hh4 H locs hq hP hS => ?_)
  obtain ⟨-, i, a, -, -, -, -, -, -, -, hi, -, hfi, -⟩ := hq
  rw [hF i hi] at hfi; cases hfi

theorem dX6_pop_0 : decode cX6_pop 0 = .ok (.iload_n 1, 1) := by decide +kernel
theorem dX6_pop_1 : decode cX6_pop 1 = .ok (.invokestatic 39, 3) := by decide +kernel
theorem dX6_pop_4 : decode cX6_pop 4 = .ok (.aload_n 0, 1) := by decide +kernel
theorem dX6_pop_5 : decode cX6_pop 5 = .ok (.iload_n 2, 1) := by decide +kernel
theorem dX6_pop_6 : decode cX6_pop 6 = .ok (.bipush 113, 2) := by decide +kernel
theorem dX6_pop_8 : decode cX6_pop 8 = .ok (.invokevirtual 55, 3) := by decide +kernel
set_option maxRecDepth 100000 in
set_option maxHeartbeats 4000000 in
theorem c_X6_pop_0 (l : Launch) (D : va_G) (cy : Nat → ClassId) (N0 : Nat) (h : qH) (x sl bl kr vr : Nat) (hm ca mv ed : Int32) (f : Nat → Option Nat) (p0 : Int32) (p1 : Int32) (hT : h x = some (.inr (6, [.int hm, .ref sl, .ref bl, .ref kr, .ref vr, .int ca, .int mv, .int ed]))) (hsl : h sl = some (.inl (cy 3, 24, .inr (.inr (.inr (.inr f)))))) (hF : ∀ i, i < 24 → f i = none) : qC l D cy N0 yX6_pop cX6_pop 8 (some .long) 9 160 6 36 [.ref x, .int p0, .int p1] h (fun v h' => False) (fun E h' => h = h' ∧ ((E = "java/lang/IllegalArgumentException" ∧ ¬ (qSl p0 ∧ qSl p1)) ∨ (E = "java/lang/IllegalStateException" ∧ qSl p0 ∧ qSl p1))) := by
  refine q_ofW (by decide) (by exact Nat.le_of_ble_eq_true rfl) ?_
  intro p e s m below meth c ls C hP hl
  have hx := C.1
  have hb := C.2.1
  have hS : va_S (qA N0) s.heap s.heap [] := va_S.rf
  have hl : lv_has ls 8 [(0, .ref x), (1, .int p0), (2, .int p1)] := hl
  refine lv_iload_n hx hb dX6_pop_0 rfl (lv_at hl 1 rfl) ?_
  refine q_callS (rest := []) C (c_X6_needSlot l D cy N0 (h) p0) kX6_needSlot g104 g105 hP hS (by first | decide | omega) hl.1 rfl (by decide) (by first | decide | omega) dX6_pop_1 (fun q ce E h' H1 locs1 hE hP hS hc1 hc2 hc3 => by obtain ⟨rfl, rfl, hq⟩ := hE; exact q_out C hP hS hc1 hc2 hc3 ⟨rfl, Or.inl ⟨rfl, fun g => hq g.1⟩⟩ (by omega)) (fun v hh1 H locs hq hP hS => ?_)
  obtain ⟨rfl, rfl, gc0⟩ := hq
  refine lv_aload_n hx hb dX6_pop_4 rfl (lv_at hl 0 rfl) ?_
  refine lv_iload_n hx hb dX6_pop_5 rfl (lv_at hl 2 rfl) ?_
  refine lv_bipush (v := 113) hx hb dX6_pop_6 (by decide) ?_
  refine q_callV (rest := []) C (c_X6_heldIn l D cy N0 (h) x sl bl kr vr hm ca mv ed f p1 113 hT hsl (fun i hi a e => by rw [hF i hi] at e; cases e)) kX6_heldIn g243 g245 rfl gp2 g1 hP hS hT (by first | decide | omega) hl.1 rfl (by decide) (by first | decide | omega) dX6_pop_8 (fun q ce E h' H1 locs1 hE hP hS hc1 hc2 hc3 => by obtain ⟨rfl, hE⟩ := hE; exact q_out C hP hS hc1 hc2 hc3 ⟨rfl, hE.elim (fun z => Or.inl ⟨z.1, fun g => z.2 g.2⟩) (fun z => Or.inr ⟨z.1, by obtain ⟨-, i, hi, ei, -⟩ := z; have gl : qSl p1 := (by rw [ei]; exact qSl.nI hi); exact ⟨gc0, gl⟩⟩)⟩ (by omega)) (fun v hh2 H locs hq hP hS => ?_)
  obtain ⟨-, i, a, -, -, -, -, -, -, -, hi, -, hfi, -⟩ := hq
  rw [hF i hi] at hfi; cases hfi

theorem dX6_front_0 : decode cX6_front 0 = .ok (.aload_n 0, 1) := by decide +kernel
theorem dX6_front_1 : decode cX6_front 1 = .ok (.iload_n 1, 1) := by decide +kernel
theorem dX6_front_2 : decode cX6_front 2 = .ok (.bipush 112, 2) := by decide +kernel
theorem dX6_front_4 : decode cX6_front 4 = .ok (.invokevirtual 55, 3) := by decide +kernel
set_option maxRecDepth 100000 in
set_option maxHeartbeats 4000000 in
theorem c_X6_front_0 (l : Launch) (D : va_G) (cy : Nat → ClassId) (N0 : Nat) (h : qH) (x sl bl kr vr : Nat) (hm ca mv ed : Int32) (f : Nat → Option Nat) (p0 : Int32) (hT : h x = some (.inr (6, [.int hm, .ref sl, .ref bl, .ref kr, .ref vr, .int ca, .int mv, .int ed]))) (hsl : h sl = some (.inl (cy 3, 24, .inr (.inr (.inr (.inr f)))))) (hF : ∀ i, i < 24 → f i = none) : qC l D cy N0 yX6_front cX6_front 3 (some .long) 9 160 6 36 [.ref x, .int p0] h (fun v h' => False) (fun E h' => h = h' ∧ ((E = "java/lang/IllegalArgumentException" ∧ ¬ (qSl p0)) ∨ (E = "java/lang/IllegalStateException" ∧ qSl p0))) := by
  refine q_ofW (by decide) (by exact Nat.le_of_ble_eq_true rfl) ?_
  intro p e s m below meth c ls C hP hl
  have hx := C.1
  have hb := C.2.1
  have hS : va_S (qA N0) s.heap s.heap [] := va_S.rf
  have hl : lv_has ls 3 [(0, .ref x), (1, .int p0)] := hl
  refine lv_aload_n hx hb dX6_front_0 rfl (lv_at hl 0 rfl) ?_
  refine lv_iload_n hx hb dX6_front_1 rfl (lv_at hl 1 rfl) ?_
  refine lv_bipush (v := 112) hx hb dX6_front_2 (by decide) ?_
  refine q_callV (rest := []) C (c_X6_heldIn l D cy N0 (h) x sl bl kr vr hm ca mv ed f p0 112 hT hsl (fun i hi a e => by rw [hF i hi] at e; cases e)) kX6_heldIn g243 g245 rfl gp2 g1 hP hS hT (by first | decide | omega) hl.1 rfl (by decide) (by first | decide | omega) dX6_front_4 (fun q ce E h' H1 locs1 hE hP hS hc1 hc2 hc3 => by obtain ⟨rfl, hE⟩ := hE; exact q_out C hP hS hc1 hc2 hc3 ⟨rfl, hE.elim (fun z => Or.inl ⟨z.1, fun g => z.2 g⟩) (fun z => Or.inr ⟨z.1, by obtain ⟨-, i, hi, ei, -⟩ := z; have gl : qSl p0 := (by rw [ei]; exact qSl.nI hi); exact gl⟩)⟩ (by omega)) (fun v hh1 H locs hq hP hS => ?_)
  obtain ⟨-, i, a, -, -, -, -, -, -, -, hi, -, hfi, -⟩ := hq
  rw [hF i hi] at hfi; cases hfi

theorem dX6_put_0 : decode cX6_put 0 = .ok (.iload_n 1, 1) := by decide +kernel
theorem dX6_put_1 : decode cX6_put 1 = .ok (.invokestatic 39, 3) := by decide +kernel
theorem dX6_put_4 : decode cX6_put 4 = .ok (.aload_n 0, 1) := by decide +kernel
theorem dX6_put_5 : decode cX6_put 5 = .ok (.iload_n 2, 1) := by decide +kernel
theorem dX6_put_6 : decode cX6_put 6 = .ok (.bipush 10, 2) := by decide +kernel
theorem dX6_put_8 : decode cX6_put 8 = .ok (.invokevirtual 55, 3) := by decide +kernel
set_option maxRecDepth 100000 in
set_option maxHeartbeats 4000000 in
theorem c_X6_put_0 (l : Launch) (D : va_G) (cy : Nat → ClassId) (N0 : Nat) (h : qH) (x sl bl kr vr : Nat) (hm ca mv ed : Int32) (f : Nat → Option Nat) (p0 : Int32) (p1 : Int32) (p2 : Int64) (p3 : Int64) (hT : h x = some (.inr (6, [.int hm, .ref sl, .ref bl, .ref kr, .ref vr, .int ca, .int mv, .int ed]))) (hsl : h sl = some (.inl (cy 3, 24, .inr (.inr (.inr (.inr f)))))) (hF : ∀ i, i < 24 → f i = none) : qC l D cy N0 yX6_put cX6_put 8 (some .int) 9 160 6 36 [.ref x, .int p0, .int p1, .long p2, .long p3] h (fun v h' => False) (fun E h' => h = h' ∧ ((E = "java/lang/IllegalArgumentException" ∧ ¬ (qSl p0 ∧ qSl p1)) ∨ (E = "java/lang/IllegalStateException" ∧ qSl p0 ∧ qSl p1))) := by
  refine q_ofW (by decide) (by exact Nat.le_of_ble_eq_true rfl) ?_
  intro p e s m below meth c ls C hP hl
  have hx := C.1
  have hb := C.2.1
  have hS : va_S (qA N0) s.heap s.heap [] := va_S.rf
  have hl : lv_has ls 8 [(0, .ref x), (1, .int p0), (2, .int p1), (3, .long p2), (5, .long p3)] := hl
  refine lv_iload_n hx hb dX6_put_0 rfl (lv_at hl 1 rfl) ?_
  refine q_callS (rest := []) C (c_X6_needSlot l D cy N0 (h) p0) kX6_needSlot g104 g105 hP hS (by first | decide | omega) hl.1 rfl (by decide) (by first | decide | omega) dX6_put_1 (fun q ce E h' H1 locs1 hE hP hS hc1 hc2 hc3 => by obtain ⟨rfl, rfl, hq⟩ := hE; exact q_out C hP hS hc1 hc2 hc3 ⟨rfl, Or.inl ⟨rfl, fun g => hq g.1⟩⟩ (by omega)) (fun v hh1 H locs hq hP hS => ?_)
  obtain ⟨rfl, rfl, gc0⟩ := hq
  refine lv_aload_n hx hb dX6_put_4 rfl (lv_at hl 0 rfl) ?_
  refine lv_iload_n hx hb dX6_put_5 rfl (lv_at hl 2 rfl) ?_
  refine lv_bipush (v := 10) hx hb dX6_put_6 (by decide) ?_
  refine q_callV (rest := []) C (c_X6_heldIn l D cy N0 (h) x sl bl kr vr hm ca mv ed f p1 10 hT hsl (fun i hi a e => by rw [hF i hi] at e; cases e)) kX6_heldIn g243 g245 rfl gp2 g1 hP hS hT (by first | decide | omega) hl.1 rfl (by decide) (by first | decide | omega) dX6_put_8 (fun q ce E h' H1 locs1 hE hP hS hc1 hc2 hc3 => by obtain ⟨rfl, hE⟩ := hE; exact q_out C hP hS hc1 hc2 hc3 ⟨rfl, hE.elim (fun z => Or.inl ⟨z.1, fun g => z.2 g.2⟩) (fun z => Or.inr ⟨z.1, by obtain ⟨-, i, hi, ei, -⟩ := z; have gl : qSl p1 := (by rw [ei]; exact qSl.nI hi); exact ⟨gc0, gl⟩⟩)⟩ (by omega)) (fun v hh2 H locs hq hP hS => ?_)
  obtain ⟨-, i, a, -, -, -, -, -, -, -, hi, -, hfi, -⟩ := hq
  rw [hF i hi] at hfi; cases hfi

theorem dX6_find_0 : decode cX6_find 0 = .ok (.aload_n 0, 1) := by decide +kernel
theorem dX6_find_1 : decode cX6_find 1 = .ok (.iload_n 1, 1) := by decide +kernel
theorem dX6_find_2 : decode cX6_find 2 = .ok (.bipush 14, 2) := by decide +kernel
theorem dX6_find_4 : decode cX6_find 4 = .ok (.invokevirtual 55, 3) := by decide +kernel
set_option maxRecDepth 100000 in
set_option maxHeartbeats 4000000 in
theorem c_X6_find_0 (l : Launch) (D : va_G) (cy : Nat → ClassId) (N0 : Nat) (h : qH) (x sl bl kr vr : Nat) (hm ca mv ed : Int32) (f : Nat → Option Nat) (p0 : Int32) (p1 : Int64) (hT : h x = some (.inr (6, [.int hm, .ref sl, .ref bl, .ref kr, .ref vr, .int ca, .int mv, .int ed]))) (hsl : h sl = some (.inl (cy 3, 24, .inr (.inr (.inr (.inr f)))))) (hF : ∀ i, i < 24 → f i = none) : qC l D cy N0 yX6_find cX6_find 5 (some .long) 9 160 6 36 [.ref x, .int p0, .long p1] h (fun v h' => False) (fun E h' => h = h' ∧ ((E = "java/lang/IllegalArgumentException" ∧ ¬ (qSl p0)) ∨ (E = "java/lang/IllegalStateException" ∧ qSl p0))) := by
  refine q_ofW (by decide) (by exact Nat.le_of_ble_eq_true rfl) ?_
  intro p e s m below meth c ls C hP hl
  have hx := C.1
  have hb := C.2.1
  have hS : va_S (qA N0) s.heap s.heap [] := va_S.rf
  have hl : lv_has ls 5 [(0, .ref x), (1, .int p0), (2, .long p1)] := hl
  refine lv_aload_n hx hb dX6_find_0 rfl (lv_at hl 0 rfl) ?_
  refine lv_iload_n hx hb dX6_find_1 rfl (lv_at hl 1 rfl) ?_
  refine lv_bipush (v := 14) hx hb dX6_find_2 (by decide) ?_
  refine q_callV (rest := []) C (c_X6_heldIn l D cy N0 (h) x sl bl kr vr hm ca mv ed f p0 14 hT hsl (fun i hi a e => by rw [hF i hi] at e; cases e)) kX6_heldIn g243 g245 rfl gp2 g1 hP hS hT (by first | decide | omega) hl.1 rfl (by decide) (by first | decide | omega) dX6_find_4 (fun q ce E h' H1 locs1 hE hP hS hc1 hc2 hc3 => by obtain ⟨rfl, hE⟩ := hE; exact q_out C hP hS hc1 hc2 hc3 ⟨rfl, hE.elim (fun z => Or.inl ⟨z.1, fun g => z.2 g⟩) (fun z => Or.inr ⟨z.1, by obtain ⟨-, i, hi, ei, -⟩ := z; have gl : qSl p0 := (by rw [ei]; exact qSl.nI hi); exact gl⟩)⟩ (by omega)) (fun v hh1 H locs hq hP hS => ?_)
  obtain ⟨-, i, a, -, -, -, -, -, -, -, hi, -, hfi, -⟩ := hq
  rw [hF i hi] at hfi; cases hfi

theorem dX6_out_0 : decode cX6_out 0 = .ok (.iload_n 1, 1) := by decide +kernel
theorem dX6_out_1 : decode cX6_out 1 = .ok (.invokestatic 39, 3) := by decide +kernel
theorem dX6_out_4 : decode cX6_out 4 = .ok (.aload_n 0, 1) := by decide +kernel
theorem dX6_out_5 : decode cX6_out 5 = .ok (.iload_n 2, 1) := by decide +kernel
theorem dX6_out_6 : decode cX6_out 6 = .ok (.bipush 14, 2) := by decide +kernel
theorem dX6_out_8 : decode cX6_out 8 = .ok (.invokevirtual 55, 3) := by decide +kernel
set_option maxRecDepth 100000 in
set_option maxHeartbeats 4000000 in
theorem c_X6_out_0 (l : Launch) (D : va_G) (cy : Nat → ClassId) (N0 : Nat) (h : qH) (x sl bl kr vr : Nat) (hm ca mv ed : Int32) (f : Nat → Option Nat) (p0 : Int32) (p1 : Int32) (p2 : Int64) (hT : h x = some (.inr (6, [.int hm, .ref sl, .ref bl, .ref kr, .ref vr, .int ca, .int mv, .int ed]))) (hsl : h sl = some (.inl (cy 3, 24, .inr (.inr (.inr (.inr f)))))) (hF : ∀ i, i < 24 → f i = none) : qC l D cy N0 yX6_out cX6_out 6 (some .int) 9 160 6 36 [.ref x, .int p0, .int p1, .long p2] h (fun v h' => False) (fun E h' => h = h' ∧ ((E = "java/lang/IllegalArgumentException" ∧ ¬ (qSl p0 ∧ qSl p1)) ∨ (E = "java/lang/IllegalStateException" ∧ qSl p0 ∧ qSl p1))) := by
  refine q_ofW (by decide) (by exact Nat.le_of_ble_eq_true rfl) ?_
  intro p e s m below meth c ls C hP hl
  have hx := C.1
  have hb := C.2.1
  have hS : va_S (qA N0) s.heap s.heap [] := va_S.rf
  have hl : lv_has ls 6 [(0, .ref x), (1, .int p0), (2, .int p1), (3, .long p2)] := hl
  refine lv_iload_n hx hb dX6_out_0 rfl (lv_at hl 1 rfl) ?_
  refine q_callS (rest := []) C (c_X6_needSlot l D cy N0 (h) p0) kX6_needSlot g104 g105 hP hS (by first | decide | omega) hl.1 rfl (by decide) (by first | decide | omega) dX6_out_1 (fun q ce E h' H1 locs1 hE hP hS hc1 hc2 hc3 => by obtain ⟨rfl, rfl, hq⟩ := hE; exact q_out C hP hS hc1 hc2 hc3 ⟨rfl, Or.inl ⟨rfl, fun g => hq g.1⟩⟩ (by omega)) (fun v hh1 H locs hq hP hS => ?_)
  obtain ⟨rfl, rfl, gc0⟩ := hq
  refine lv_aload_n hx hb dX6_out_4 rfl (lv_at hl 0 rfl) ?_
  refine lv_iload_n hx hb dX6_out_5 rfl (lv_at hl 2 rfl) ?_
  refine lv_bipush (v := 14) hx hb dX6_out_6 (by decide) ?_
  refine q_callV (rest := []) C (c_X6_heldIn l D cy N0 (h) x sl bl kr vr hm ca mv ed f p1 14 hT hsl (fun i hi a e => by rw [hF i hi] at e; cases e)) kX6_heldIn g243 g245 rfl gp2 g1 hP hS hT (by first | decide | omega) hl.1 rfl (by decide) (by first | decide | omega) dX6_out_8 (fun q ce E h' H1 locs1 hE hP hS hc1 hc2 hc3 => by obtain ⟨rfl, hE⟩ := hE; exact q_out C hP hS hc1 hc2 hc3 ⟨rfl, hE.elim (fun z => Or.inl ⟨z.1, fun g => z.2 g.2⟩) (fun z => Or.inr ⟨z.1, by obtain ⟨-, i, hi, ei, -⟩ := z; have gl : qSl p1 := (by rw [ei]; exact qSl.nI hi); exact ⟨gc0, gl⟩⟩)⟩ (by omega)) (fun v hh2 H locs hq hP hS => ?_)
  obtain ⟨-, i, a, -, -, -, -, -, -, -, hi, -, hfi, -⟩ := hq
  rw [hF i hi] at hfi; cases hfi

theorem dX6_near_0 : decode cX6_near 0 = .ok (.iload_n 1, 1) := by decide +kernel
theorem dX6_near_1 : decode cX6_near 1 = .ok (.invokestatic 39, 3) := by decide +kernel
theorem dX6_near_4 : decode cX6_near 4 = .ok (.iload 4, 2) := by decide +kernel
theorem dX6_near_6 : decode cX6_near 6 = .ok (.iconst 3, 1) := by decide +kernel
theorem dX6_near_7 : decode cX6_near 7 = .ok (.invokestatic 43, 3) := by decide +kernel
theorem dX6_near_10 : decode cX6_near 10 = .ok (.aload_n 0, 1) := by decide +kernel
theorem dX6_near_11 : decode cX6_near 11 = .ok (.iload_n 1, 1) := by decide +kernel
theorem dX6_near_12 : decode cX6_near 12 = .ok (.bipush 8, 2) := by decide +kernel
theorem dX6_near_14 : decode cX6_near 14 = .ok (.invokevirtual 55, 3) := by decide +kernel
set_option maxRecDepth 100000 in
set_option maxHeartbeats 4000000 in
theorem c_X6_near_0 (l : Launch) (D : va_G) (cy : Nat → ClassId) (N0 : Nat) (h : qH) (x sl bl kr vr : Nat) (hm ca mv ed : Int32) (f : Nat → Option Nat) (p0 : Int32) (p1 : Int64) (p2 : Int32) (hT : h x = some (.inr (6, [.int hm, .ref sl, .ref bl, .ref kr, .ref vr, .int ca, .int mv, .int ed]))) (hsl : h sl = some (.inl (cy 3, 24, .inr (.inr (.inr (.inr f)))))) (hF : ∀ i, i < 24 → f i = none) : qC l D cy N0 yX6_near cX6_near 5 (some .long) 9 160 6 36 [.ref x, .int p0, .long p1, .int p2] h (fun v h' => False) (fun E h' => h = h' ∧ ((E = "java/lang/IllegalArgumentException" ∧ ¬ (qSl p0 ∧ qIn p2 3)) ∨ (E = "java/lang/IllegalStateException" ∧ qSl p0 ∧ qIn p2 3))) := by
  refine q_ofW (by decide) (by exact Nat.le_of_ble_eq_true rfl) ?_
  intro p e s m below meth c ls C hP hl
  have hx := C.1
  have hb := C.2.1
  have hS : va_S (qA N0) s.heap s.heap [] := va_S.rf
  have hl : lv_has ls 5 [(0, .ref x), (1, .int p0), (2, .long p1), (4, .int p2)] := hl
  refine lv_iload_n hx hb dX6_near_0 rfl (lv_at hl 1 rfl) ?_
  refine q_callS (rest := []) C (c_X6_needSlot l D cy N0 (h) p0) kX6_needSlot g104 g105 hP hS (by first | decide | omega) hl.1 rfl (by decide) (by first | decide | omega) dX6_near_1 (fun q ce E h' H1 locs1 hE hP hS hc1 hc2 hc3 => by obtain ⟨rfl, rfl, hq⟩ := hE; exact q_out C hP hS hc1 hc2 hc3 ⟨rfl, Or.inl ⟨rfl, fun g => hq g.1⟩⟩ (by omega)) (fun v hh1 H locs hq hP hS => ?_)
  obtain ⟨rfl, rfl, gc0⟩ := hq
  refine lv_iload hx hb dX6_near_4 (lv_at hl 3 rfl) ?_
  refine lv_iconst (v := 3) hx hb dX6_near_6 (by decide) ?_
  refine q_callS (rest := []) C (c_X6_needWithin l D cy N0 (h) p2 3) kX6_needWithin g107 g108 hP hS (by first | decide | omega) hl.1 rfl (by decide) (by first | decide | omega) dX6_near_7 (fun q ce E h' H1 locs1 hE hP hS hc1 hc2 hc3 => by obtain ⟨rfl, rfl, hq⟩ := hE; exact q_out C hP hS hc1 hc2 hc3 ⟨rfl, Or.inl ⟨rfl, fun g => hq.elim g.2.1 (fun q => q g.2.2)⟩⟩ (by omega)) (fun v hh2 H locs hq hP hS => ?_)
  obtain ⟨rfl, rfl, gd1, gd2⟩ := hq; have gc1 : qIn p2 3 := ⟨gd1, gd2⟩
  refine lv_aload_n hx hb dX6_near_10 rfl (lv_at hl 0 rfl) ?_
  refine lv_iload_n hx hb dX6_near_11 rfl (lv_at hl 1 rfl) ?_
  refine lv_bipush (v := 8) hx hb dX6_near_12 (by decide) ?_
  refine q_callV (rest := []) C (c_X6_heldIn l D cy N0 (h) x sl bl kr vr hm ca mv ed f p0 8 hT hsl (fun i hi a e => by rw [hF i hi] at e; cases e)) kX6_heldIn g243 g245 rfl gp2 g1 hP hS hT (by first | decide | omega) hl.1 rfl (by decide) (by first | decide | omega) dX6_near_14 (fun q ce E h' H1 locs1 hE hP hS hc1 hc2 hc3 => by obtain ⟨rfl, hE⟩ := hE; exact q_out C hP hS hc1 hc2 hc3 ⟨rfl, hE.elim (fun z => Or.inl ⟨z.1, fun g => z.2 g.1⟩) (fun z => Or.inr ⟨z.1, by obtain ⟨-, i, hi, ei, -⟩ := z; have gl : qSl p0 := (by rw [ei]; exact qSl.nI hi); exact ⟨gl, gc1⟩⟩)⟩ (by omega)) (fun v hh3 H locs hq hP hS => ?_)
  obtain ⟨-, i, a, -, -, -, -, -, -, -, hi, -, hfi, -⟩ := hq
  rw [hF i hi] at hfi; cases hfi

theorem dX6_range_0 : decode cX6_range 0 = .ok (.iload_n 1, 1) := by decide +kernel
theorem dX6_range_1 : decode cX6_range 1 = .ok (.invokestatic 39, 3) := by decide +kernel
theorem dX6_range_4 : decode cX6_range 4 = .ok (.aload_n 0, 1) := by decide +kernel
theorem dX6_range_5 : decode cX6_range 5 = .ok (.iload_n 2, 1) := by decide +kernel
theorem dX6_range_6 : decode cX6_range 6 = .ok (.bipush 8, 2) := by decide +kernel
theorem dX6_range_8 : decode cX6_range 8 = .ok (.invokevirtual 55, 3) := by decide +kernel
set_option maxRecDepth 100000 in
set_option maxHeartbeats 4000000 in
theorem c_X6_range_0 (l : Launch) (D : va_G) (cy : Nat → ClassId) (N0 : Nat) (h : qH) (x sl bl kr vr : Nat) (hm ca mv ed : Int32) (f : Nat → Option Nat) (p0 : Int32) (p1 : Int32) (p2 : Int64) (p3 : Int64) (hT : h x = some (.inr (6, [.int hm, .ref sl, .ref bl, .ref kr, .ref vr, .int ca, .int mv, .int ed]))) (hsl : h sl = some (.inl (cy 3, 24, .inr (.inr (.inr (.inr f)))))) (hF : ∀ i, i < 24 → f i = none) : qC l D cy N0 yX6_range cX6_range 9 (some .int) 9 160 6 36 [.ref x, .int p0, .int p1, .long p2, .long p3] h (fun v h' => False) (fun E h' => h = h' ∧ ((E = "java/lang/IllegalArgumentException" ∧ ¬ (qSl p0 ∧ qSl p1)) ∨ (E = "java/lang/IllegalStateException" ∧ qSl p0 ∧ qSl p1))) := by
  refine q_ofW (by decide) (by exact Nat.le_of_ble_eq_true rfl) ?_
  intro p e s m below meth c ls C hP hl
  have hx := C.1
  have hb := C.2.1
  have hS : va_S (qA N0) s.heap s.heap [] := va_S.rf
  have hl : lv_has ls 9 [(0, .ref x), (1, .int p0), (2, .int p1), (3, .long p2), (5, .long p3)] := hl
  refine lv_iload_n hx hb dX6_range_0 rfl (lv_at hl 1 rfl) ?_
  refine q_callS (rest := []) C (c_X6_needSlot l D cy N0 (h) p0) kX6_needSlot g104 g105 hP hS (by first | decide | omega) hl.1 rfl (by decide) (by first | decide | omega) dX6_range_1 (fun q ce E h' H1 locs1 hE hP hS hc1 hc2 hc3 => by obtain ⟨rfl, rfl, hq⟩ := hE; exact q_out C hP hS hc1 hc2 hc3 ⟨rfl, Or.inl ⟨rfl, fun g => hq g.1⟩⟩ (by omega)) (fun v hh1 H locs hq hP hS => ?_)
  obtain ⟨rfl, rfl, gc0⟩ := hq
  refine lv_aload_n hx hb dX6_range_4 rfl (lv_at hl 0 rfl) ?_
  refine lv_iload_n hx hb dX6_range_5 rfl (lv_at hl 2 rfl) ?_
  refine lv_bipush (v := 8) hx hb dX6_range_6 (by decide) ?_
  refine q_callV (rest := []) C (c_X6_heldIn l D cy N0 (h) x sl bl kr vr hm ca mv ed f p1 8 hT hsl (fun i hi a e => by rw [hF i hi] at e; cases e)) kX6_heldIn g243 g245 rfl gp2 g1 hP hS hT (by first | decide | omega) hl.1 rfl (by decide) (by first | decide | omega) dX6_range_8 (fun q ce E h' H1 locs1 hE hP hS hc1 hc2 hc3 => by obtain ⟨rfl, hE⟩ := hE; exact q_out C hP hS hc1 hc2 hc3 ⟨rfl, hE.elim (fun z => Or.inl ⟨z.1, fun g => z.2 g.2⟩) (fun z => Or.inr ⟨z.1, by obtain ⟨-, i, hi, ei, -⟩ := z; have gl : qSl p1 := (by rw [ei]; exact qSl.nI hi); exact ⟨gc0, gl⟩⟩)⟩ (by omega)) (fun v hh2 H locs hq hP hS => ?_)
  obtain ⟨-, i, a, -, -, -, -, -, -, -, hi, -, hfi, -⟩ := hq
  rw [hF i hi] at hfi; cases hfi

theorem dX6_join_0 : decode cX6_join 0 = .ok (.iload_n 1, 1) := by decide +kernel
theorem dX6_join_1 : decode cX6_join 1 = .ok (.invokestatic 39, 3) := by decide +kernel
theorem dX6_join_4 : decode cX6_join 4 = .ok (.iload_n 2, 1) := by decide +kernel
theorem dX6_join_5 : decode cX6_join 5 = .ok (.invokestatic 39, 3) := by decide +kernel
theorem dX6_join_8 : decode cX6_join 8 = .ok (.iload_n 3, 1) := by decide +kernel
theorem dX6_join_9 : decode cX6_join 9 = .ok (.invokestatic 39, 3) := by decide +kernel
theorem dX6_join_12 : decode cX6_join 12 = .ok (.aload_n 0, 1) := by decide +kernel
theorem dX6_join_13 : decode cX6_join 13 = .ok (.iload_n 2, 1) := by decide +kernel
theorem dX6_join_14 : decode cX6_join 14 = .ok (.bipush 127, 2) := by decide +kernel
theorem dX6_join_16 : decode cX6_join 16 = .ok (.invokevirtual 55, 3) := by decide +kernel
set_option maxRecDepth 100000 in
set_option maxHeartbeats 4000000 in
theorem c_X6_join_0 (l : Launch) (D : va_G) (cy : Nat → ClassId) (N0 : Nat) (h : qH) (x sl bl kr vr : Nat) (hm ca mv ed : Int32) (f : Nat → Option Nat) (p0 : Int32) (p1 : Int32) (p2 : Int32) (hT : h x = some (.inr (6, [.int hm, .ref sl, .ref bl, .ref kr, .ref vr, .int ca, .int mv, .int ed]))) (hsl : h sl = some (.inl (cy 3, 24, .inr (.inr (.inr (.inr f)))))) (hF : ∀ i, i < 24 → f i = none) : qC l D cy N0 yX6_join cX6_join 6 (some .int) 9 160 6 36 [.ref x, .int p0, .int p1, .int p2] h (fun v h' => False) (fun E h' => h = h' ∧ ((E = "java/lang/IllegalArgumentException" ∧ ¬ (qSl p0 ∧ qSl p1 ∧ qSl p2)) ∨ (E = "java/lang/IllegalStateException" ∧ qSl p0 ∧ qSl p1 ∧ qSl p2))) := by
  refine q_ofW (by decide) (by exact Nat.le_of_ble_eq_true rfl) ?_
  intro p e s m below meth c ls C hP hl
  have hx := C.1
  have hb := C.2.1
  have hS : va_S (qA N0) s.heap s.heap [] := va_S.rf
  have hl : lv_has ls 6 [(0, .ref x), (1, .int p0), (2, .int p1), (3, .int p2)] := hl
  refine lv_iload_n hx hb dX6_join_0 rfl (lv_at hl 1 rfl) ?_
  refine q_callS (rest := []) C (c_X6_needSlot l D cy N0 (h) p0) kX6_needSlot g104 g105 hP hS (by first | decide | omega) hl.1 rfl (by decide) (by first | decide | omega) dX6_join_1 (fun q ce E h' H1 locs1 hE hP hS hc1 hc2 hc3 => by obtain ⟨rfl, rfl, hq⟩ := hE; exact q_out C hP hS hc1 hc2 hc3 ⟨rfl, Or.inl ⟨rfl, fun g => hq g.1⟩⟩ (by omega)) (fun v hh1 H locs hq hP hS => ?_)
  obtain ⟨rfl, rfl, gc0⟩ := hq
  refine lv_iload_n hx hb dX6_join_4 rfl (lv_at hl 2 rfl) ?_
  refine q_callS (rest := []) C (c_X6_needSlot l D cy N0 (h) p1) kX6_needSlot g104 g105 hP hS (by first | decide | omega) hl.1 rfl (by decide) (by first | decide | omega) dX6_join_5 (fun q ce E h' H1 locs1 hE hP hS hc1 hc2 hc3 => by obtain ⟨rfl, rfl, hq⟩ := hE; exact q_out C hP hS hc1 hc2 hc3 ⟨rfl, Or.inl ⟨rfl, fun g => hq g.2.1⟩⟩ (by omega)) (fun v hh2 H locs hq hP hS => ?_)
  obtain ⟨rfl, rfl, gc1⟩ := hq
  refine lv_iload_n hx hb dX6_join_8 rfl (lv_at hl 3 rfl) ?_
  refine q_callS (rest := []) C (c_X6_needSlot l D cy N0 (h) p2) kX6_needSlot g104 g105 hP hS (by first | decide | omega) hl.1 rfl (by decide) (by first | decide | omega) dX6_join_9 (fun q ce E h' H1 locs1 hE hP hS hc1 hc2 hc3 => by obtain ⟨rfl, rfl, hq⟩ := hE; exact q_out C hP hS hc1 hc2 hc3 ⟨rfl, Or.inl ⟨rfl, fun g => hq g.2.2⟩⟩ (by omega)) (fun v hh3 H locs hq hP hS => ?_)
  obtain ⟨rfl, rfl, gc2⟩ := hq
  refine lv_aload_n hx hb dX6_join_12 rfl (lv_at hl 0 rfl) ?_
  refine lv_iload_n hx hb dX6_join_13 rfl (lv_at hl 2 rfl) ?_
  refine lv_bipush (v := 127) hx hb dX6_join_14 (by decide) ?_
  refine q_callV (rest := []) C (c_X6_heldIn l D cy N0 (h) x sl bl kr vr hm ca mv ed f p1 127 hT hsl (fun i hi a e => by rw [hF i hi] at e; cases e)) kX6_heldIn g243 g245 rfl gp2 g1 hP hS hT (by first | decide | omega) hl.1 rfl (by decide) (by first | decide | omega) dX6_join_16 (fun q ce E h' H1 locs1 hE hP hS hc1 hc2 hc3 => by obtain ⟨rfl, hE⟩ := hE; exact q_out C hP hS hc1 hc2 hc3 ⟨rfl, hE.elim (fun z => Or.inl ⟨z.1, fun g => z.2 g.2.1⟩) (fun z => Or.inr ⟨z.1, by obtain ⟨-, i, hi, ei, -⟩ := z; have gl : qSl p1 := (by rw [ei]; exact qSl.nI hi); exact ⟨gc0, gl, gc2⟩⟩)⟩ (by omega)) (fun v hh4 H locs hq hP hS => ?_)
  obtain ⟨-, i, a, -, -, -, -, -, -, -, hi, -, hfi, -⟩ := hq
  rw [hF i hi] at hfi; cases hfi

theorem dX6_meet_0 : decode cX6_meet 0 = .ok (.iload_n 1, 1) := by decide +kernel
theorem dX6_meet_1 : decode cX6_meet 1 = .ok (.invokestatic 39, 3) := by decide +kernel
theorem dX6_meet_4 : decode cX6_meet 4 = .ok (.iload_n 2, 1) := by decide +kernel
theorem dX6_meet_5 : decode cX6_meet 5 = .ok (.invokestatic 39, 3) := by decide +kernel
theorem dX6_meet_8 : decode cX6_meet 8 = .ok (.iload_n 3, 1) := by decide +kernel
theorem dX6_meet_9 : decode cX6_meet 9 = .ok (.invokestatic 39, 3) := by decide +kernel
theorem dX6_meet_12 : decode cX6_meet 12 = .ok (.aload_n 0, 1) := by decide +kernel
theorem dX6_meet_13 : decode cX6_meet 13 = .ok (.iload_n 2, 1) := by decide +kernel
theorem dX6_meet_14 : decode cX6_meet 14 = .ok (.iconst 4, 1) := by decide +kernel
theorem dX6_meet_15 : decode cX6_meet 15 = .ok (.invokevirtual 55, 3) := by decide +kernel
set_option maxRecDepth 100000 in
set_option maxHeartbeats 4000000 in
theorem c_X6_meet_0 (l : Launch) (D : va_G) (cy : Nat → ClassId) (N0 : Nat) (h : qH) (x sl bl kr vr : Nat) (hm ca mv ed : Int32) (f : Nat → Option Nat) (p0 : Int32) (p1 : Int32) (p2 : Int32) (p3 : Int32) (hT : h x = some (.inr (6, [.int hm, .ref sl, .ref bl, .ref kr, .ref vr, .int ca, .int mv, .int ed]))) (hsl : h sl = some (.inl (cy 3, 24, .inr (.inr (.inr (.inr f)))))) (hF : ∀ i, i < 24 → f i = none) : qC l D cy N0 yX6_meet cX6_meet 10 (some .int) 9 160 6 36 [.ref x, .int p0, .int p1, .int p2, .int p3] h (fun v h' => False) (fun E h' => h = h' ∧ ((E = "java/lang/IllegalArgumentException" ∧ ¬ (qSl p0 ∧ qSl p1 ∧ qSl p2)) ∨ (E = "java/lang/IllegalStateException" ∧ qSl p0 ∧ qSl p1 ∧ qSl p2))) := by
  refine q_ofW (by decide) (by exact Nat.le_of_ble_eq_true rfl) ?_
  intro p e s m below meth c ls C hP hl
  have hx := C.1
  have hb := C.2.1
  have hS : va_S (qA N0) s.heap s.heap [] := va_S.rf
  have hl : lv_has ls 10 [(0, .ref x), (1, .int p0), (2, .int p1), (3, .int p2), (4, .int p3)] := hl
  refine lv_iload_n hx hb dX6_meet_0 rfl (lv_at hl 1 rfl) ?_
  refine q_callS (rest := []) C (c_X6_needSlot l D cy N0 (h) p0) kX6_needSlot g104 g105 hP hS (by first | decide | omega) hl.1 rfl (by decide) (by first | decide | omega) dX6_meet_1 (fun q ce E h' H1 locs1 hE hP hS hc1 hc2 hc3 => by obtain ⟨rfl, rfl, hq⟩ := hE; exact q_out C hP hS hc1 hc2 hc3 ⟨rfl, Or.inl ⟨rfl, fun g => hq g.1⟩⟩ (by omega)) (fun v hh1 H locs hq hP hS => ?_)
  obtain ⟨rfl, rfl, gc0⟩ := hq
  refine lv_iload_n hx hb dX6_meet_4 rfl (lv_at hl 2 rfl) ?_
  refine q_callS (rest := []) C (c_X6_needSlot l D cy N0 (h) p1) kX6_needSlot g104 g105 hP hS (by first | decide | omega) hl.1 rfl (by decide) (by first | decide | omega) dX6_meet_5 (fun q ce E h' H1 locs1 hE hP hS hc1 hc2 hc3 => by obtain ⟨rfl, rfl, hq⟩ := hE; exact q_out C hP hS hc1 hc2 hc3 ⟨rfl, Or.inl ⟨rfl, fun g => hq g.2.1⟩⟩ (by omega)) (fun v hh2 H locs hq hP hS => ?_)
  obtain ⟨rfl, rfl, gc1⟩ := hq
  refine lv_iload_n hx hb dX6_meet_8 rfl (lv_at hl 3 rfl) ?_
  refine q_callS (rest := []) C (c_X6_needSlot l D cy N0 (h) p2) kX6_needSlot g104 g105 hP hS (by first | decide | omega) hl.1 rfl (by decide) (by first | decide | omega) dX6_meet_9 (fun q ce E h' H1 locs1 hE hP hS hc1 hc2 hc3 => by obtain ⟨rfl, rfl, hq⟩ := hE; exact q_out C hP hS hc1 hc2 hc3 ⟨rfl, Or.inl ⟨rfl, fun g => hq g.2.2⟩⟩ (by omega)) (fun v hh3 H locs hq hP hS => ?_)
  obtain ⟨rfl, rfl, gc2⟩ := hq
  refine lv_aload_n hx hb dX6_meet_12 rfl (lv_at hl 0 rfl) ?_
  refine lv_iload_n hx hb dX6_meet_13 rfl (lv_at hl 2 rfl) ?_
  refine lv_iconst (v := 4) hx hb dX6_meet_14 (by decide) ?_
  refine q_callV (rest := []) C (c_X6_heldIn l D cy N0 (h) x sl bl kr vr hm ca mv ed f p1 4 hT hsl (fun i hi a e => by rw [hF i hi] at e; cases e)) kX6_heldIn g243 g245 rfl gp2 g1 hP hS hT (by first | decide | omega) hl.1 rfl (by decide) (by first | decide | omega) dX6_meet_15 (fun q ce E h' H1 locs1 hE hP hS hc1 hc2 hc3 => by obtain ⟨rfl, hE⟩ := hE; exact q_out C hP hS hc1 hc2 hc3 ⟨rfl, hE.elim (fun z => Or.inl ⟨z.1, fun g => z.2 g.2.1⟩) (fun z => Or.inr ⟨z.1, by obtain ⟨-, i, hi, ei, -⟩ := z; have gl : qSl p1 := (by rw [ei]; exact qSl.nI hi); exact ⟨gc0, gl, gc2⟩⟩)⟩ (by omega)) (fun v hh4 H locs hq hP hS => ?_)
  obtain ⟨-, i, a, -, -, -, -, -, -, -, hi, -, hfi, -⟩ := hq
  rw [hF i hi] at hfi; cases hfi

theorem dX6_shape_0 : decode cX6_shape 0 = .ok (.aload_n 0, 1) := by decide +kernel
theorem dX6_shape_1 : decode cX6_shape 1 = .ok (.iload_n 1, 1) := by decide +kernel
theorem dX6_shape_2 : decode cX6_shape 2 = .ok (.bipush 6, 2) := by decide +kernel
theorem dX6_shape_4 : decode cX6_shape 4 = .ok (.invokevirtual 55, 3) := by decide +kernel
set_option maxRecDepth 100000 in
set_option maxHeartbeats 4000000 in
theorem c_X6_shape_0 (l : Launch) (D : va_G) (cy : Nat → ClassId) (N0 : Nat) (h : qH) (x sl bl kr vr : Nat) (hm ca mv ed : Int32) (f : Nat → Option Nat) (p0 : Int32) (hT : h x = some (.inr (6, [.int hm, .ref sl, .ref bl, .ref kr, .ref vr, .int ca, .int mv, .int ed]))) (hsl : h sl = some (.inl (cy 3, 24, .inr (.inr (.inr (.inr f)))))) (hF : ∀ i, i < 24 → f i = none) : qC l D cy N0 yX6_shape cX6_shape 2 (some .int) 9 160 6 36 [.ref x, .int p0] h (fun v h' => False) (fun E h' => h = h' ∧ ((E = "java/lang/IllegalArgumentException" ∧ ¬ (qSl p0)) ∨ (E = "java/lang/IllegalStateException" ∧ qSl p0))) := by
  refine q_ofW (by decide) (by exact Nat.le_of_ble_eq_true rfl) ?_
  intro p e s m below meth c ls C hP hl
  have hx := C.1
  have hb := C.2.1
  have hS : va_S (qA N0) s.heap s.heap [] := va_S.rf
  have hl : lv_has ls 2 [(0, .ref x), (1, .int p0)] := hl
  refine lv_aload_n hx hb dX6_shape_0 rfl (lv_at hl 0 rfl) ?_
  refine lv_iload_n hx hb dX6_shape_1 rfl (lv_at hl 1 rfl) ?_
  refine lv_bipush (v := 6) hx hb dX6_shape_2 (by decide) ?_
  refine q_callV (rest := []) C (c_X6_heldIn l D cy N0 (h) x sl bl kr vr hm ca mv ed f p0 6 hT hsl (fun i hi a e => by rw [hF i hi] at e; cases e)) kX6_heldIn g243 g245 rfl gp2 g1 hP hS hT (by first | decide | omega) hl.1 rfl (by decide) (by first | decide | omega) dX6_shape_4 (fun q ce E h' H1 locs1 hE hP hS hc1 hc2 hc3 => by obtain ⟨rfl, hE⟩ := hE; exact q_out C hP hS hc1 hc2 hc3 ⟨rfl, hE.elim (fun z => Or.inl ⟨z.1, fun g => z.2 g⟩) (fun z => Or.inr ⟨z.1, by obtain ⟨-, i, hi, ei, -⟩ := z; have gl : qSl p0 := (by rw [ei]; exact qSl.nI hi); exact gl⟩)⟩ (by omega)) (fun v hh1 H locs hq hP hS => ?_)
  obtain ⟨-, i, a, -, -, -, -, -, -, -, hi, -, hfi, -⟩ := hq
  rw [hF i hi] at hfi; cases hfi

theorem dX6_same_0 : decode cX6_same 0 = .ok (.iload_n 1, 1) := by decide +kernel
theorem dX6_same_1 : decode cX6_same 1 = .ok (.invokestatic 39, 3) := by decide +kernel
theorem dX6_same_4 : decode cX6_same 4 = .ok (.iload_n 2, 1) := by decide +kernel
theorem dX6_same_5 : decode cX6_same 5 = .ok (.invokestatic 39, 3) := by decide +kernel
theorem dX6_same_8 : decode cX6_same 8 = .ok (.aload_n 0, 1) := by decide +kernel
theorem dX6_same_9 : decode cX6_same 9 = .ok (.iload_n 1, 1) := by decide +kernel
theorem dX6_same_10 : decode cX6_same 10 = .ok (.bipush 63, 2) := by decide +kernel
theorem dX6_same_12 : decode cX6_same 12 = .ok (.invokevirtual 55, 3) := by decide +kernel
set_option maxRecDepth 100000 in
set_option maxHeartbeats 4000000 in
theorem c_X6_same_0 (l : Launch) (D : va_G) (cy : Nat → ClassId) (N0 : Nat) (h : qH) (x sl bl kr vr : Nat) (hm ca mv ed : Int32) (f : Nat → Option Nat) (p0 : Int32) (p1 : Int32) (hT : h x = some (.inr (6, [.int hm, .ref sl, .ref bl, .ref kr, .ref vr, .int ca, .int mv, .int ed]))) (hsl : h sl = some (.inl (cy 3, 24, .inr (.inr (.inr (.inr f)))))) (hF : ∀ i, i < 24 → f i = none) : qC l D cy N0 yX6_same cX6_same 5 (some .boolean) 9 160 6 36 [.ref x, .int p0, .int p1] h (fun v h' => False) (fun E h' => h = h' ∧ ((E = "java/lang/IllegalArgumentException" ∧ ¬ (qSl p0 ∧ qSl p1)) ∨ (E = "java/lang/IllegalStateException" ∧ qSl p0 ∧ qSl p1))) := by
  refine q_ofW (by decide) (by exact Nat.le_of_ble_eq_true rfl) ?_
  intro p e s m below meth c ls C hP hl
  have hx := C.1
  have hb := C.2.1
  have hS : va_S (qA N0) s.heap s.heap [] := va_S.rf
  have hl : lv_has ls 5 [(0, .ref x), (1, .int p0), (2, .int p1)] := hl
  refine lv_iload_n hx hb dX6_same_0 rfl (lv_at hl 1 rfl) ?_
  refine q_callS (rest := []) C (c_X6_needSlot l D cy N0 (h) p0) kX6_needSlot g104 g105 hP hS (by first | decide | omega) hl.1 rfl (by decide) (by first | decide | omega) dX6_same_1 (fun q ce E h' H1 locs1 hE hP hS hc1 hc2 hc3 => by obtain ⟨rfl, rfl, hq⟩ := hE; exact q_out C hP hS hc1 hc2 hc3 ⟨rfl, Or.inl ⟨rfl, fun g => hq g.1⟩⟩ (by omega)) (fun v hh1 H locs hq hP hS => ?_)
  obtain ⟨rfl, rfl, gc0⟩ := hq
  refine lv_iload_n hx hb dX6_same_4 rfl (lv_at hl 2 rfl) ?_
  refine q_callS (rest := []) C (c_X6_needSlot l D cy N0 (h) p1) kX6_needSlot g104 g105 hP hS (by first | decide | omega) hl.1 rfl (by decide) (by first | decide | omega) dX6_same_5 (fun q ce E h' H1 locs1 hE hP hS hc1 hc2 hc3 => by obtain ⟨rfl, rfl, hq⟩ := hE; exact q_out C hP hS hc1 hc2 hc3 ⟨rfl, Or.inl ⟨rfl, fun g => hq g.2⟩⟩ (by omega)) (fun v hh2 H locs hq hP hS => ?_)
  obtain ⟨rfl, rfl, gc1⟩ := hq
  refine lv_aload_n hx hb dX6_same_8 rfl (lv_at hl 0 rfl) ?_
  refine lv_iload_n hx hb dX6_same_9 rfl (lv_at hl 1 rfl) ?_
  refine lv_bipush (v := 63) hx hb dX6_same_10 (by decide) ?_
  refine q_callV (rest := []) C (c_X6_heldIn l D cy N0 (h) x sl bl kr vr hm ca mv ed f p0 63 hT hsl (fun i hi a e => by rw [hF i hi] at e; cases e)) kX6_heldIn g243 g245 rfl gp2 g1 hP hS hT (by first | decide | omega) hl.1 rfl (by decide) (by first | decide | omega) dX6_same_12 (fun q ce E h' H1 locs1 hE hP hS hc1 hc2 hc3 => by obtain ⟨rfl, hE⟩ := hE; exact q_out C hP hS hc1 hc2 hc3 ⟨rfl, hE.elim (fun z => Or.inl ⟨z.1, fun g => z.2 g.1⟩) (fun z => Or.inr ⟨z.1, by obtain ⟨-, i, hi, ei, -⟩ := z; have gl : qSl p0 := (by rw [ei]; exact qSl.nI hi); exact ⟨gl, gc1⟩⟩)⟩ (by omega)) (fun v hh3 H locs hq hP hS => ?_)
  obtain ⟨-, i, a, -, -, -, -, -, -, -, hi, -, hfi, -⟩ := hq
  rw [hF i hi] at hfi; cases hfi

theorem dX6_map_0 : decode cX6_map 0 = .ok (.iload_n 1, 1) := by decide +kernel
theorem dX6_map_1 : decode cX6_map 1 = .ok (.invokestatic 39, 3) := by decide +kernel
theorem dX6_map_4 : decode cX6_map 4 = .ok (.iload_n 2, 1) := by decide +kernel
theorem dX6_map_5 : decode cX6_map 5 = .ok (.invokestatic 39, 3) := by decide +kernel
theorem dX6_map_8 : decode cX6_map 8 = .ok (.iload_n 3, 1) := by decide +kernel
theorem dX6_map_9 : decode cX6_map 9 = .ok (.bipush 6, 2) := by decide +kernel
theorem dX6_map_11 : decode cX6_map 11 = .ok (.invokestatic 43, 3) := by decide +kernel
theorem dX6_map_14 : decode cX6_map 14 = .ok (.aload_n 0, 1) := by decide +kernel
theorem dX6_map_15 : decode cX6_map 15 = .ok (.iload_n 2, 1) := by decide +kernel
theorem dX6_map_16 : decode cX6_map 16 = .ok (.bipush 65, 2) := by decide +kernel
theorem dX6_map_18 : decode cX6_map 18 = .ok (.invokevirtual 55, 3) := by decide +kernel
set_option maxRecDepth 100000 in
set_option maxHeartbeats 4000000 in
theorem c_X6_map_0 (l : Launch) (D : va_G) (cy : Nat → ClassId) (N0 : Nat) (h : qH) (x sl bl kr vr : Nat) (hm ca mv ed : Int32) (f : Nat → Option Nat) (p0 : Int32) (p1 : Int32) (p2 : Int32) (p3 : Int64) (hT : h x = some (.inr (6, [.int hm, .ref sl, .ref bl, .ref kr, .ref vr, .int ca, .int mv, .int ed]))) (hsl : h sl = some (.inl (cy 3, 24, .inr (.inr (.inr (.inr f)))))) (hF : ∀ i, i < 24 → f i = none) : qC l D cy N0 yX6_map cX6_map 9 none 9 160 6 36 [.ref x, .int p0, .int p1, .int p2, .long p3] h (fun v h' => False) (fun E h' => h = h' ∧ ((E = "java/lang/IllegalArgumentException" ∧ ¬ (qSl p0 ∧ qSl p1 ∧ qIn p2 6)) ∨ (E = "java/lang/IllegalStateException" ∧ qSl p0 ∧ qSl p1 ∧ qIn p2 6))) := by
  refine q_ofW (by decide) (by exact Nat.le_of_ble_eq_true rfl) ?_
  intro p e s m below meth c ls C hP hl
  have hx := C.1
  have hb := C.2.1
  have hS : va_S (qA N0) s.heap s.heap [] := va_S.rf
  have hl : lv_has ls 9 [(0, .ref x), (1, .int p0), (2, .int p1), (3, .int p2), (4, .long p3)] := hl
  refine lv_iload_n hx hb dX6_map_0 rfl (lv_at hl 1 rfl) ?_
  refine q_callS (rest := []) C (c_X6_needSlot l D cy N0 (h) p0) kX6_needSlot g104 g105 hP hS (by first | decide | omega) hl.1 rfl (by decide) (by first | decide | omega) dX6_map_1 (fun q ce E h' H1 locs1 hE hP hS hc1 hc2 hc3 => by obtain ⟨rfl, rfl, hq⟩ := hE; exact q_out C hP hS hc1 hc2 hc3 ⟨rfl, Or.inl ⟨rfl, fun g => hq g.1⟩⟩ (by omega)) (fun v hh1 H locs hq hP hS => ?_)
  obtain ⟨rfl, rfl, gc0⟩ := hq
  refine lv_iload_n hx hb dX6_map_4 rfl (lv_at hl 2 rfl) ?_
  refine q_callS (rest := []) C (c_X6_needSlot l D cy N0 (h) p1) kX6_needSlot g104 g105 hP hS (by first | decide | omega) hl.1 rfl (by decide) (by first | decide | omega) dX6_map_5 (fun q ce E h' H1 locs1 hE hP hS hc1 hc2 hc3 => by obtain ⟨rfl, rfl, hq⟩ := hE; exact q_out C hP hS hc1 hc2 hc3 ⟨rfl, Or.inl ⟨rfl, fun g => hq g.2.1⟩⟩ (by omega)) (fun v hh2 H locs hq hP hS => ?_)
  obtain ⟨rfl, rfl, gc1⟩ := hq
  refine lv_iload_n hx hb dX6_map_8 rfl (lv_at hl 3 rfl) ?_
  refine lv_bipush (v := 6) hx hb dX6_map_9 (by decide) ?_
  refine q_callS (rest := []) C (c_X6_needWithin l D cy N0 (h) p2 6) kX6_needWithin g107 g108 hP hS (by first | decide | omega) hl.1 rfl (by decide) (by first | decide | omega) dX6_map_11 (fun q ce E h' H1 locs1 hE hP hS hc1 hc2 hc3 => by obtain ⟨rfl, rfl, hq⟩ := hE; exact q_out C hP hS hc1 hc2 hc3 ⟨rfl, Or.inl ⟨rfl, fun g => hq.elim g.2.2.1 (fun q => q g.2.2.2)⟩⟩ (by omega)) (fun v hh3 H locs hq hP hS => ?_)
  obtain ⟨rfl, rfl, gd1, gd2⟩ := hq; have gc2 : qIn p2 6 := ⟨gd1, gd2⟩
  refine lv_aload_n hx hb dX6_map_14 rfl (lv_at hl 0 rfl) ?_
  refine lv_iload_n hx hb dX6_map_15 rfl (lv_at hl 2 rfl) ?_
  refine lv_bipush (v := 65) hx hb dX6_map_16 (by decide) ?_
  refine q_callV (rest := []) C (c_X6_heldIn l D cy N0 (h) x sl bl kr vr hm ca mv ed f p1 65 hT hsl (fun i hi a e => by rw [hF i hi] at e; cases e)) kX6_heldIn g243 g245 rfl gp2 g1 hP hS hT (by first | decide | omega) hl.1 rfl (by decide) (by first | decide | omega) dX6_map_18 (fun q ce E h' H1 locs1 hE hP hS hc1 hc2 hc3 => by obtain ⟨rfl, hE⟩ := hE; exact q_out C hP hS hc1 hc2 hc3 ⟨rfl, hE.elim (fun z => Or.inl ⟨z.1, fun g => z.2 g.2.1⟩) (fun z => Or.inr ⟨z.1, by obtain ⟨-, i, hi, ei, -⟩ := z; have gl : qSl p1 := (by rw [ei]; exact qSl.nI hi); exact ⟨gc0, gl, gc2⟩⟩)⟩ (by omega)) (fun v hh4 H locs hq hP hS => ?_)
  obtain ⟨-, i, a, -, -, -, -, -, -, -, hi, -, hfi, -⟩ := hq
  rw [hF i hi] at hfi; cases hfi

theorem dX6_filter_0 : decode cX6_filter 0 = .ok (.iload_n 1, 1) := by decide +kernel
theorem dX6_filter_1 : decode cX6_filter 1 = .ok (.invokestatic 39, 3) := by decide +kernel
theorem dX6_filter_4 : decode cX6_filter 4 = .ok (.iload_n 2, 1) := by decide +kernel
theorem dX6_filter_5 : decode cX6_filter 5 = .ok (.invokestatic 39, 3) := by decide +kernel
theorem dX6_filter_8 : decode cX6_filter 8 = .ok (.iload_n 3, 1) := by decide +kernel
theorem dX6_filter_9 : decode cX6_filter 9 = .ok (.iconst 4, 1) := by decide +kernel
theorem dX6_filter_10 : decode cX6_filter 10 = .ok (.invokestatic 43, 3) := by decide +kernel
theorem dX6_filter_13 : decode cX6_filter 13 = .ok (.aload_n 0, 1) := by decide +kernel
theorem dX6_filter_14 : decode cX6_filter 14 = .ok (.iload_n 2, 1) := by decide +kernel
theorem dX6_filter_15 : decode cX6_filter 15 = .ok (.bipush 69, 2) := by decide +kernel
theorem dX6_filter_17 : decode cX6_filter 17 = .ok (.invokevirtual 55, 3) := by decide +kernel
set_option maxRecDepth 100000 in
set_option maxHeartbeats 4000000 in
theorem c_X6_filter_0 (l : Launch) (D : va_G) (cy : Nat → ClassId) (N0 : Nat) (h : qH) (x sl bl kr vr : Nat) (hm ca mv ed : Int32) (f : Nat → Option Nat) (p0 : Int32) (p1 : Int32) (p2 : Int32) (p3 : Int64) (hT : h x = some (.inr (6, [.int hm, .ref sl, .ref bl, .ref kr, .ref vr, .int ca, .int mv, .int ed]))) (hsl : h sl = some (.inl (cy 3, 24, .inr (.inr (.inr (.inr f)))))) (hF : ∀ i, i < 24 → f i = none) : qC l D cy N0 yX6_filter cX6_filter 8 none 9 160 6 36 [.ref x, .int p0, .int p1, .int p2, .long p3] h (fun v h' => False) (fun E h' => h = h' ∧ ((E = "java/lang/IllegalArgumentException" ∧ ¬ (qSl p0 ∧ qSl p1 ∧ qIn p2 4)) ∨ (E = "java/lang/IllegalStateException" ∧ qSl p0 ∧ qSl p1 ∧ qIn p2 4))) := by
  refine q_ofW (by decide) (by exact Nat.le_of_ble_eq_true rfl) ?_
  intro p e s m below meth c ls C hP hl
  have hx := C.1
  have hb := C.2.1
  have hS : va_S (qA N0) s.heap s.heap [] := va_S.rf
  have hl : lv_has ls 8 [(0, .ref x), (1, .int p0), (2, .int p1), (3, .int p2), (4, .long p3)] := hl
  refine lv_iload_n hx hb dX6_filter_0 rfl (lv_at hl 1 rfl) ?_
  refine q_callS (rest := []) C (c_X6_needSlot l D cy N0 (h) p0) kX6_needSlot g104 g105 hP hS (by first | decide | omega) hl.1 rfl (by decide) (by first | decide | omega) dX6_filter_1 (fun q ce E h' H1 locs1 hE hP hS hc1 hc2 hc3 => by obtain ⟨rfl, rfl, hq⟩ := hE; exact q_out C hP hS hc1 hc2 hc3 ⟨rfl, Or.inl ⟨rfl, fun g => hq g.1⟩⟩ (by omega)) (fun v hh1 H locs hq hP hS => ?_)
  obtain ⟨rfl, rfl, gc0⟩ := hq
  refine lv_iload_n hx hb dX6_filter_4 rfl (lv_at hl 2 rfl) ?_
  refine q_callS (rest := []) C (c_X6_needSlot l D cy N0 (h) p1) kX6_needSlot g104 g105 hP hS (by first | decide | omega) hl.1 rfl (by decide) (by first | decide | omega) dX6_filter_5 (fun q ce E h' H1 locs1 hE hP hS hc1 hc2 hc3 => by obtain ⟨rfl, rfl, hq⟩ := hE; exact q_out C hP hS hc1 hc2 hc3 ⟨rfl, Or.inl ⟨rfl, fun g => hq g.2.1⟩⟩ (by omega)) (fun v hh2 H locs hq hP hS => ?_)
  obtain ⟨rfl, rfl, gc1⟩ := hq
  refine lv_iload_n hx hb dX6_filter_8 rfl (lv_at hl 3 rfl) ?_
  refine lv_iconst (v := 4) hx hb dX6_filter_9 (by decide) ?_
  refine q_callS (rest := []) C (c_X6_needWithin l D cy N0 (h) p2 4) kX6_needWithin g107 g108 hP hS (by first | decide | omega) hl.1 rfl (by decide) (by first | decide | omega) dX6_filter_10 (fun q ce E h' H1 locs1 hE hP hS hc1 hc2 hc3 => by obtain ⟨rfl, rfl, hq⟩ := hE; exact q_out C hP hS hc1 hc2 hc3 ⟨rfl, Or.inl ⟨rfl, fun g => hq.elim g.2.2.1 (fun q => q g.2.2.2)⟩⟩ (by omega)) (fun v hh3 H locs hq hP hS => ?_)
  obtain ⟨rfl, rfl, gd1, gd2⟩ := hq; have gc2 : qIn p2 4 := ⟨gd1, gd2⟩
  refine lv_aload_n hx hb dX6_filter_13 rfl (lv_at hl 0 rfl) ?_
  refine lv_iload_n hx hb dX6_filter_14 rfl (lv_at hl 2 rfl) ?_
  refine lv_bipush (v := 69) hx hb dX6_filter_15 (by decide) ?_
  refine q_callV (rest := []) C (c_X6_heldIn l D cy N0 (h) x sl bl kr vr hm ca mv ed f p1 69 hT hsl (fun i hi a e => by rw [hF i hi] at e; cases e)) kX6_heldIn g243 g245 rfl gp2 g1 hP hS hT (by first | decide | omega) hl.1 rfl (by decide) (by first | decide | omega) dX6_filter_17 (fun q ce E h' H1 locs1 hE hP hS hc1 hc2 hc3 => by obtain ⟨rfl, hE⟩ := hE; exact q_out C hP hS hc1 hc2 hc3 ⟨rfl, hE.elim (fun z => Or.inl ⟨z.1, fun g => z.2 g.2.1⟩) (fun z => Or.inr ⟨z.1, by obtain ⟨-, i, hi, ei, -⟩ := z; have gl : qSl p1 := (by rw [ei]; exact qSl.nI hi); exact ⟨gc0, gl, gc2⟩⟩)⟩ (by omega)) (fun v hh4 H locs hq hP hS => ?_)
  obtain ⟨-, i, a, -, -, -, -, -, -, -, hi, -, hfi, -⟩ := hq
  rw [hF i hi] at hfi; cases hfi

theorem dX6_take_0 : decode cX6_take 0 = .ok (.iload_n 1, 1) := by decide +kernel
theorem dX6_take_1 : decode cX6_take 1 = .ok (.invokestatic 39, 3) := by decide +kernel
theorem dX6_take_4 : decode cX6_take 4 = .ok (.iload_n 2, 1) := by decide +kernel
theorem dX6_take_5 : decode cX6_take 5 = .ok (.invokestatic 39, 3) := by decide +kernel
theorem dX6_take_8 : decode cX6_take 8 = .ok (.iload_n 3, 1) := by decide +kernel
theorem dX6_take_9 : decode cX6_take 9 = .ok (.invokestatic 148, 3) := by decide +kernel
theorem dX6_take_12 : decode cX6_take 12 = .ok (.aload_n 0, 1) := by decide +kernel
theorem dX6_take_13 : decode cX6_take 13 = .ok (.iload_n 2, 1) := by decide +kernel
theorem dX6_take_14 : decode cX6_take 14 = .ok (.bipush 64, 2) := by decide +kernel
theorem dX6_take_16 : decode cX6_take 16 = .ok (.invokevirtual 55, 3) := by decide +kernel
set_option maxRecDepth 100000 in
set_option maxHeartbeats 4000000 in
theorem c_X6_take_0 (l : Launch) (D : va_G) (cy : Nat → ClassId) (N0 : Nat) (h : qH) (x sl bl kr vr : Nat) (hm ca mv ed : Int32) (f : Nat → Option Nat) (p0 : Int32) (p1 : Int32) (p2 : Int32) (hT : h x = some (.inr (6, [.int hm, .ref sl, .ref bl, .ref kr, .ref vr, .int ca, .int mv, .int ed]))) (hsl : h sl = some (.inl (cy 3, 24, .inr (.inr (.inr (.inr f)))))) (hF : ∀ i, i < 24 → f i = none) : qC l D cy N0 yX6_take cX6_take 5 none 9 160 6 36 [.ref x, .int p0, .int p1, .int p2] h (fun v h' => False) (fun E h' => h = h' ∧ ((E = "java/lang/IllegalArgumentException" ∧ ¬ (qSl p0 ∧ qSl p1 ∧ ¬ p2 < 0)) ∨ (E = "java/lang/IllegalStateException" ∧ qSl p0 ∧ qSl p1 ∧ ¬ p2 < 0))) := by
  refine q_ofW (by decide) (by exact Nat.le_of_ble_eq_true rfl) ?_
  intro p e s m below meth c ls C hP hl
  have hx := C.1
  have hb := C.2.1
  have hS : va_S (qA N0) s.heap s.heap [] := va_S.rf
  have hl : lv_has ls 5 [(0, .ref x), (1, .int p0), (2, .int p1), (3, .int p2)] := hl
  refine lv_iload_n hx hb dX6_take_0 rfl (lv_at hl 1 rfl) ?_
  refine q_callS (rest := []) C (c_X6_needSlot l D cy N0 (h) p0) kX6_needSlot g104 g105 hP hS (by first | decide | omega) hl.1 rfl (by decide) (by first | decide | omega) dX6_take_1 (fun q ce E h' H1 locs1 hE hP hS hc1 hc2 hc3 => by obtain ⟨rfl, rfl, hq⟩ := hE; exact q_out C hP hS hc1 hc2 hc3 ⟨rfl, Or.inl ⟨rfl, fun g => hq g.1⟩⟩ (by omega)) (fun v hh1 H locs hq hP hS => ?_)
  obtain ⟨rfl, rfl, gc0⟩ := hq
  refine lv_iload_n hx hb dX6_take_4 rfl (lv_at hl 2 rfl) ?_
  refine q_callS (rest := []) C (c_X6_needSlot l D cy N0 (h) p1) kX6_needSlot g104 g105 hP hS (by first | decide | omega) hl.1 rfl (by decide) (by first | decide | omega) dX6_take_5 (fun q ce E h' H1 locs1 hE hP hS hc1 hc2 hc3 => by obtain ⟨rfl, rfl, hq⟩ := hE; exact q_out C hP hS hc1 hc2 hc3 ⟨rfl, Or.inl ⟨rfl, fun g => hq g.2.1⟩⟩ (by omega)) (fun v hh2 H locs hq hP hS => ?_)
  obtain ⟨rfl, rfl, gc1⟩ := hq
  refine lv_iload_n hx hb dX6_take_8 rfl (lv_at hl 3 rfl) ?_
  refine q_callS (rest := []) C (c_X6_needNotNegative l D cy N0 (h) p2) kX6_needNotNegative g629 g630 hP hS (by first | decide | omega) hl.1 rfl (by decide) (by first | decide | omega) dX6_take_9 (fun q ce E h' H1 locs1 hE hP hS hc1 hc2 hc3 => by obtain ⟨rfl, rfl, hq⟩ := hE; exact q_out C hP hS hc1 hc2 hc3 ⟨rfl, Or.inl ⟨rfl, fun g => g.2.2 hq⟩⟩ (by omega)) (fun v hh3 H locs hq hP hS => ?_)
  obtain ⟨rfl, rfl, gc2⟩ := hq
  refine lv_aload_n hx hb dX6_take_12 rfl (lv_at hl 0 rfl) ?_
  refine lv_iload_n hx hb dX6_take_13 rfl (lv_at hl 2 rfl) ?_
  refine lv_bipush (v := 64) hx hb dX6_take_14 (by decide) ?_
  refine q_callV (rest := []) C (c_X6_heldIn l D cy N0 (h) x sl bl kr vr hm ca mv ed f p1 64 hT hsl (fun i hi a e => by rw [hF i hi] at e; cases e)) kX6_heldIn g243 g245 rfl gp2 g1 hP hS hT (by first | decide | omega) hl.1 rfl (by decide) (by first | decide | omega) dX6_take_16 (fun q ce E h' H1 locs1 hE hP hS hc1 hc2 hc3 => by obtain ⟨rfl, hE⟩ := hE; exact q_out C hP hS hc1 hc2 hc3 ⟨rfl, hE.elim (fun z => Or.inl ⟨z.1, fun g => z.2 g.2.1⟩) (fun z => Or.inr ⟨z.1, by obtain ⟨-, i, hi, ei, -⟩ := z; have gl : qSl p1 := (by rw [ei]; exact qSl.nI hi); exact ⟨gc0, gl, gc2⟩⟩)⟩ (by omega)) (fun v hh4 H locs hq hP hS => ?_)
  obtain ⟨-, i, a, -, -, -, -, -, -, -, hi, -, hfi, -⟩ := hq
  rw [hF i hi] at hfi; cases hfi

theorem dX6_list_0 : decode cX6_list 0 = .ok (.iload_n 1, 1) := by decide +kernel
theorem dX6_list_1 : decode cX6_list 1 = .ok (.invokestatic 39, 3) := by decide +kernel
theorem dX6_list_4 : decode cX6_list 4 = .ok (.iload_n 2, 1) := by decide +kernel
theorem dX6_list_5 : decode cX6_list 5 = .ok (.invokestatic 39, 3) := by decide +kernel
theorem dX6_list_8 : decode cX6_list 8 = .ok (.iload_n 3, 1) := by decide +kernel
theorem dX6_list_9 : decode cX6_list 9 = .ok (.sipush 1000, 3) := by decide +kernel
theorem dX6_list_12 : decode cX6_list 12 = .ok (.invokestatic 43, 3) := by decide +kernel
theorem dX6_list_15 : decode cX6_list 15 = .ok (.aload_n 0, 1) := by decide +kernel
theorem dX6_list_16 : decode cX6_list 16 = .ok (.iload_n 2, 1) := by decide +kernel
theorem dX6_list_17 : decode cX6_list 17 = .ok (.bipush 64, 2) := by decide +kernel
theorem dX6_list_19 : decode cX6_list 19 = .ok (.invokevirtual 55, 3) := by decide +kernel
set_option maxRecDepth 100000 in
set_option maxHeartbeats 4000000 in
theorem c_X6_list_0 (l : Launch) (D : va_G) (cy : Nat → ClassId) (N0 : Nat) (h : qH) (x sl bl kr vr : Nat) (hm ca mv ed : Int32) (f : Nat → Option Nat) (p0 : Int32) (p1 : Int32) (p2 : Int32) (hT : h x = some (.inr (6, [.int hm, .ref sl, .ref bl, .ref kr, .ref vr, .int ca, .int mv, .int ed]))) (hsl : h sl = some (.inl (cy 3, 24, .inr (.inr (.inr (.inr f)))))) (hF : ∀ i, i < 24 → f i = none) : qC l D cy N0 yX6_list cX6_list 6 (some .int) 9 160 6 36 [.ref x, .int p0, .int p1, .int p2] h (fun v h' => False) (fun E h' => h = h' ∧ ((E = "java/lang/IllegalArgumentException" ∧ ¬ (qSl p0 ∧ qSl p1 ∧ qIn p2 1000)) ∨ (E = "java/lang/IllegalStateException" ∧ qSl p0 ∧ qSl p1 ∧ qIn p2 1000))) := by
  refine q_ofW (by decide) (by exact Nat.le_of_ble_eq_true rfl) ?_
  intro p e s m below meth c ls C hP hl
  have hx := C.1
  have hb := C.2.1
  have hS : va_S (qA N0) s.heap s.heap [] := va_S.rf
  have hl : lv_has ls 6 [(0, .ref x), (1, .int p0), (2, .int p1), (3, .int p2)] := hl
  refine lv_iload_n hx hb dX6_list_0 rfl (lv_at hl 1 rfl) ?_
  refine q_callS (rest := []) C (c_X6_needSlot l D cy N0 (h) p0) kX6_needSlot g104 g105 hP hS (by first | decide | omega) hl.1 rfl (by decide) (by first | decide | omega) dX6_list_1 (fun q ce E h' H1 locs1 hE hP hS hc1 hc2 hc3 => by obtain ⟨rfl, rfl, hq⟩ := hE; exact q_out C hP hS hc1 hc2 hc3 ⟨rfl, Or.inl ⟨rfl, fun g => hq g.1⟩⟩ (by omega)) (fun v hh1 H locs hq hP hS => ?_)
  obtain ⟨rfl, rfl, gc0⟩ := hq
  refine lv_iload_n hx hb dX6_list_4 rfl (lv_at hl 2 rfl) ?_
  refine q_callS (rest := []) C (c_X6_needSlot l D cy N0 (h) p1) kX6_needSlot g104 g105 hP hS (by first | decide | omega) hl.1 rfl (by decide) (by first | decide | omega) dX6_list_5 (fun q ce E h' H1 locs1 hE hP hS hc1 hc2 hc3 => by obtain ⟨rfl, rfl, hq⟩ := hE; exact q_out C hP hS hc1 hc2 hc3 ⟨rfl, Or.inl ⟨rfl, fun g => hq g.2.1⟩⟩ (by omega)) (fun v hh2 H locs hq hP hS => ?_)
  obtain ⟨rfl, rfl, gc1⟩ := hq
  refine lv_iload_n hx hb dX6_list_8 rfl (lv_at hl 3 rfl) ?_
  refine lv_sipush (v := 1000) hx hb dX6_list_9 (by decide) ?_
  refine q_callS (rest := []) C (c_X6_needWithin l D cy N0 (h) p2 1000) kX6_needWithin g107 g108 hP hS (by first | decide | omega) hl.1 rfl (by decide) (by first | decide | omega) dX6_list_12 (fun q ce E h' H1 locs1 hE hP hS hc1 hc2 hc3 => by obtain ⟨rfl, rfl, hq⟩ := hE; exact q_out C hP hS hc1 hc2 hc3 ⟨rfl, Or.inl ⟨rfl, fun g => hq.elim g.2.2.1 (fun q => q g.2.2.2)⟩⟩ (by omega)) (fun v hh3 H locs hq hP hS => ?_)
  obtain ⟨rfl, rfl, gd1, gd2⟩ := hq; have gc2 : qIn p2 1000 := ⟨gd1, gd2⟩
  refine lv_aload_n hx hb dX6_list_15 rfl (lv_at hl 0 rfl) ?_
  refine lv_iload_n hx hb dX6_list_16 rfl (lv_at hl 2 rfl) ?_
  refine lv_bipush (v := 64) hx hb dX6_list_17 (by decide) ?_
  refine q_callV (rest := []) C (c_X6_heldIn l D cy N0 (h) x sl bl kr vr hm ca mv ed f p1 64 hT hsl (fun i hi a e => by rw [hF i hi] at e; cases e)) kX6_heldIn g243 g245 rfl gp2 g1 hP hS hT (by first | decide | omega) hl.1 rfl (by decide) (by first | decide | omega) dX6_list_19 (fun q ce E h' H1 locs1 hE hP hS hc1 hc2 hc3 => by obtain ⟨rfl, hE⟩ := hE; exact q_out C hP hS hc1 hc2 hc3 ⟨rfl, hE.elim (fun z => Or.inl ⟨z.1, fun g => z.2 g.2.1⟩) (fun z => Or.inr ⟨z.1, by obtain ⟨-, i, hi, ei, -⟩ := z; have gl : qSl p1 := (by rw [ei]; exact qSl.nI hi); exact ⟨gc0, gl, gc2⟩⟩)⟩ (by omega)) (fun v hh4 H locs hq hP hS => ?_)
  obtain ⟨-, i, a, -, -, -, -, -, -, -, hi, -, hfi, -⟩ := hq
  rw [hF i hi] at hfi; cases hfi

theorem dX6_turn_0 : decode cX6_turn 0 = .ok (.iload_n 1, 1) := by decide +kernel
theorem dX6_turn_1 : decode cX6_turn 1 = .ok (.invokestatic 39, 3) := by decide +kernel
theorem dX6_turn_4 : decode cX6_turn 4 = .ok (.aload_n 0, 1) := by decide +kernel
theorem dX6_turn_5 : decode cX6_turn 5 = .ok (.iload_n 2, 1) := by decide +kernel
theorem dX6_turn_6 : decode cX6_turn 6 = .ok (.bipush 15, 2) := by decide +kernel
theorem dX6_turn_8 : decode cX6_turn 8 = .ok (.invokevirtual 55, 3) := by decide +kernel
set_option maxRecDepth 100000 in
set_option maxHeartbeats 4000000 in
theorem c_X6_turn_0 (l : Launch) (D : va_G) (cy : Nat → ClassId) (N0 : Nat) (h : qH) (x sl bl kr vr : Nat) (hm ca mv ed : Int32) (f : Nat → Option Nat) (p0 : Int32) (p1 : Int32) (hT : h x = some (.inr (6, [.int hm, .ref sl, .ref bl, .ref kr, .ref vr, .int ca, .int mv, .int ed]))) (hsl : h sl = some (.inl (cy 3, 24, .inr (.inr (.inr (.inr f)))))) (hF : ∀ i, i < 24 → f i = none) : qC l D cy N0 yX6_turn cX6_turn 5 none 9 160 6 36 [.ref x, .int p0, .int p1] h (fun v h' => False) (fun E h' => h = h' ∧ ((E = "java/lang/IllegalArgumentException" ∧ ¬ (qSl p0 ∧ qSl p1)) ∨ (E = "java/lang/IllegalStateException" ∧ qSl p0 ∧ qSl p1))) := by
  refine q_ofW (by decide) (by exact Nat.le_of_ble_eq_true rfl) ?_
  intro p e s m below meth c ls C hP hl
  have hx := C.1
  have hb := C.2.1
  have hS : va_S (qA N0) s.heap s.heap [] := va_S.rf
  have hl : lv_has ls 5 [(0, .ref x), (1, .int p0), (2, .int p1)] := hl
  refine lv_iload_n hx hb dX6_turn_0 rfl (lv_at hl 1 rfl) ?_
  refine q_callS (rest := []) C (c_X6_needSlot l D cy N0 (h) p0) kX6_needSlot g104 g105 hP hS (by first | decide | omega) hl.1 rfl (by decide) (by first | decide | omega) dX6_turn_1 (fun q ce E h' H1 locs1 hE hP hS hc1 hc2 hc3 => by obtain ⟨rfl, rfl, hq⟩ := hE; exact q_out C hP hS hc1 hc2 hc3 ⟨rfl, Or.inl ⟨rfl, fun g => hq g.1⟩⟩ (by omega)) (fun v hh1 H locs hq hP hS => ?_)
  obtain ⟨rfl, rfl, gc0⟩ := hq
  refine lv_aload_n hx hb dX6_turn_4 rfl (lv_at hl 0 rfl) ?_
  refine lv_iload_n hx hb dX6_turn_5 rfl (lv_at hl 2 rfl) ?_
  refine lv_bipush (v := 15) hx hb dX6_turn_6 (by decide) ?_
  refine q_callV (rest := []) C (c_X6_heldIn l D cy N0 (h) x sl bl kr vr hm ca mv ed f p1 15 hT hsl (fun i hi a e => by rw [hF i hi] at e; cases e)) kX6_heldIn g243 g245 rfl gp2 g1 hP hS hT (by first | decide | omega) hl.1 rfl (by decide) (by first | decide | omega) dX6_turn_8 (fun q ce E h' H1 locs1 hE hP hS hc1 hc2 hc3 => by obtain ⟨rfl, hE⟩ := hE; exact q_out C hP hS hc1 hc2 hc3 ⟨rfl, hE.elim (fun z => Or.inl ⟨z.1, fun g => z.2 g.2⟩) (fun z => Or.inr ⟨z.1, by obtain ⟨-, i, hi, ei, -⟩ := z; have gl : qSl p1 := (by rw [ei]; exact qSl.nI hi); exact ⟨gc0, gl⟩⟩)⟩ (by omega)) (fun v hh2 H locs hq hP hS => ?_)
  obtain ⟨-, i, a, -, -, -, -, -, -, -, hi, -, hfi, -⟩ := hq
  rw [hF i hi] at hfi; cases hfi

theorem dX6_open_0 : decode cX6_open 0 = .ok (.iload_n 1, 1) := by decide +kernel
theorem dX6_open_1 : decode cX6_open 1 = .ok (.iconst 3, 1) := by decide +kernel
theorem dX6_open_2 : decode cX6_open 2 = .ok (.invokestatic 43, 3) := by decide +kernel
theorem dX6_open_5 : decode cX6_open 5 = .ok (.aload_n 0, 1) := by decide +kernel
theorem dX6_open_6 : decode cX6_open 6 = .ok (.iload_n 2, 1) := by decide +kernel
theorem dX6_open_7 : decode cX6_open 7 = .ok (.bipush 7, 2) := by decide +kernel
theorem dX6_open_9 : decode cX6_open 9 = .ok (.invokevirtual 55, 3) := by decide +kernel
set_option maxRecDepth 100000 in
set_option maxHeartbeats 4000000 in
theorem c_X6_open_0 (l : Launch) (D : va_G) (cy : Nat → ClassId) (N0 : Nat) (h : qH) (x sl bl kr vr : Nat) (hm ca mv ed : Int32) (f : Nat → Option Nat) (p0 : Int32) (p1 : Int32) (hT : h x = some (.inr (6, [.int hm, .ref sl, .ref bl, .ref kr, .ref vr, .int ca, .int mv, .int ed]))) (hsl : h sl = some (.inl (cy 3, 24, .inr (.inr (.inr (.inr f)))))) (hF : ∀ i, i < 24 → f i = none) : qC l D cy N0 yX6_open cX6_open 5 none 9 160 6 36 [.ref x, .int p0, .int p1] h (fun v h' => False) (fun E h' => h = h' ∧ ((E = "java/lang/IllegalArgumentException" ∧ ¬ (qIn p0 3 ∧ qSl p1)) ∨ (E = "java/lang/IllegalStateException" ∧ qIn p0 3 ∧ qSl p1))) := by
  refine q_ofW (by decide) (by exact Nat.le_of_ble_eq_true rfl) ?_
  intro p e s m below meth c ls C hP hl
  have hx := C.1
  have hb := C.2.1
  have hS : va_S (qA N0) s.heap s.heap [] := va_S.rf
  have hl : lv_has ls 5 [(0, .ref x), (1, .int p0), (2, .int p1)] := hl
  refine lv_iload_n hx hb dX6_open_0 rfl (lv_at hl 1 rfl) ?_
  refine lv_iconst (v := 3) hx hb dX6_open_1 (by decide) ?_
  refine q_callS (rest := []) C (c_X6_needWithin l D cy N0 (h) p0 3) kX6_needWithin g107 g108 hP hS (by first | decide | omega) hl.1 rfl (by decide) (by first | decide | omega) dX6_open_2 (fun q ce E h' H1 locs1 hE hP hS hc1 hc2 hc3 => by obtain ⟨rfl, rfl, hq⟩ := hE; exact q_out C hP hS hc1 hc2 hc3 ⟨rfl, Or.inl ⟨rfl, fun g => hq.elim g.1.1 (fun q => q g.1.2)⟩⟩ (by omega)) (fun v hh1 H locs hq hP hS => ?_)
  obtain ⟨rfl, rfl, gd1, gd2⟩ := hq; have gc0 : qIn p0 3 := ⟨gd1, gd2⟩
  refine lv_aload_n hx hb dX6_open_5 rfl (lv_at hl 0 rfl) ?_
  refine lv_iload_n hx hb dX6_open_6 rfl (lv_at hl 2 rfl) ?_
  refine lv_bipush (v := 7) hx hb dX6_open_7 (by decide) ?_
  refine q_callV (rest := []) C (c_X6_heldIn l D cy N0 (h) x sl bl kr vr hm ca mv ed f p1 7 hT hsl (fun i hi a e => by rw [hF i hi] at e; cases e)) kX6_heldIn g243 g245 rfl gp2 g1 hP hS hT (by first | decide | omega) hl.1 rfl (by decide) (by first | decide | omega) dX6_open_9 (fun q ce E h' H1 locs1 hE hP hS hc1 hc2 hc3 => by obtain ⟨rfl, hE⟩ := hE; exact q_out C hP hS hc1 hc2 hc3 ⟨rfl, hE.elim (fun z => Or.inl ⟨z.1, fun g => z.2 g.2⟩) (fun z => Or.inr ⟨z.1, by obtain ⟨-, i, hi, ei, -⟩ := z; have gl : qSl p1 := (by rw [ei]; exact qSl.nI hi); exact ⟨gc0, gl⟩⟩)⟩ (by omega)) (fun v hh2 H locs hq hP hS => ?_)
  obtain ⟨-, i, a, -, -, -, -, -, -, -, hi, -, hfi, -⟩ := hq
  rw [hF i hi] at hfi; cases hfi

theorem dX6_build_0 : decode cX6_build 0 = .ok (.iload_n 1, 1) := by decide +kernel
theorem dX6_build_1 : decode cX6_build 1 = .ok (.iconst 3, 1) := by decide +kernel
theorem dX6_build_2 : decode cX6_build 2 = .ok (.invokestatic 43, 3) := by decide +kernel
theorem dX6_build_5 : decode cX6_build 5 = .ok (.iload_n 2, 1) := by decide +kernel
theorem dX6_build_6 : decode cX6_build 6 = .ok (.iconst 2, 1) := by decide +kernel
theorem dX6_build_7 : decode cX6_build 7 = .ok (.invokestatic 43, 3) := by decide +kernel
theorem dX6_build_10 : decode cX6_build 10 = .ok (.aload_n 0, 1) := by decide +kernel
theorem dX6_build_11 : decode cX6_build 11 = .ok (.iload_n 1, 1) := by decide +kernel
theorem dX6_build_12 : decode cX6_build 12 = .ok (.invokevirtual 330, 3) := by decide +kernel
set_option maxRecDepth 100000 in
set_option maxHeartbeats 4000000 in
theorem c_X6_build_0 (l : Launch) (D : va_G) (cy : Nat → ClassId) (N0 : Nat) (h : qH) (x sl bl kr vr : Nat) (hm ca mv ed : Int32) (f : Nat → Option Nat) (g : Nat → Option Nat) (p0 : Int32) (p1 : Int32) (p2 : Int64) (p3 : Int64) (hT : h x = some (.inr (6, [.int hm, .ref sl, .ref bl, .ref kr, .ref vr, .int ca, .int mv, .int ed]))) (hsl : h sl = some (.inl (cy 3, 24, .inr (.inr (.inr (.inr f)))))) (hF : ∀ i, i < 24 → f i = none) (hbl : h bl = some (.inl (cy 2, 4, .inr (.inr (.inr (.inr g)))))) (hB : ∀ j, j < 4 → ∃ (b rw : Nat) (kd ln e2 : Int32) (rt : Option Nat), qBd h g j b rw 0 kd ln e2 rt) : qC l D cy N0 yX6_build cX6_build 8 (some .int) 9 160 6 36 [.ref x, .int p0, .int p1, .long p2, .long p3] h (fun v h' => False) (fun E h' => h = h' ∧ ((E = "java/lang/IllegalArgumentException" ∧ ¬ (qIn p0 3 ∧ qIn p1 2)) ∨ (E = "java/lang/IllegalStateException" ∧ qIn p0 3 ∧ qIn p1 2))) := by
  refine q_ofW (by decide) (by exact Nat.le_of_ble_eq_true rfl) ?_
  intro p e s m below meth c ls C hP hl
  have hx := C.1
  have hb := C.2.1
  have hS : va_S (qA N0) s.heap s.heap [] := va_S.rf
  have hl : lv_has ls 8 [(0, .ref x), (1, .int p0), (2, .int p1), (3, .long p2), (5, .long p3)] := hl
  refine lv_iload_n hx hb dX6_build_0 rfl (lv_at hl 1 rfl) ?_
  refine lv_iconst (v := 3) hx hb dX6_build_1 (by decide) ?_
  refine q_callS (rest := []) C (c_X6_needWithin l D cy N0 (h) p0 3) kX6_needWithin g107 g108 hP hS (by first | decide | omega) hl.1 rfl (by decide) (by first | decide | omega) dX6_build_2 (fun q ce E h' H1 locs1 hE hP hS hc1 hc2 hc3 => by obtain ⟨rfl, rfl, hq⟩ := hE; exact q_out C hP hS hc1 hc2 hc3 ⟨rfl, Or.inl ⟨rfl, fun g => hq.elim g.1.1 (fun q => q g.1.2)⟩⟩ (by omega)) (fun v hh1 H locs hq hP hS => ?_)
  obtain ⟨rfl, rfl, gd1, gd2⟩ := hq; have gc0 : qIn p0 3 := ⟨gd1, gd2⟩
  refine lv_iload_n hx hb dX6_build_5 rfl (lv_at hl 2 rfl) ?_
  refine lv_iconst (v := 2) hx hb dX6_build_6 (by decide) ?_
  refine q_callS (rest := []) C (c_X6_needWithin l D cy N0 (h) p1 2) kX6_needWithin g107 g108 hP hS (by first | decide | omega) hl.1 rfl (by decide) (by first | decide | omega) dX6_build_7 (fun q ce E h' H1 locs1 hE hP hS hc1 hc2 hc3 => by obtain ⟨rfl, rfl, hq⟩ := hE; exact q_out C hP hS hc1 hc2 hc3 ⟨rfl, Or.inl ⟨rfl, fun g => hq.elim g.2.1 (fun q => q g.2.2)⟩⟩ (by omega)) (fun v hh2 H locs hq hP hS => ?_)
  obtain ⟨rfl, rfl, gd1, gd2⟩ := hq; have gc1 : qIn p1 2 := ⟨gd1, gd2⟩
  refine lv_aload_n hx hb dX6_build_10 rfl (lv_at hl 0 rfl) ?_
  refine lv_iload_n hx hb dX6_build_11 rfl (lv_at hl 1 rfl) ?_
  obtain ⟨j, hj, rfl⟩ := gc0.of3
  obtain ⟨b, rw_, kd, ln, e2, rt, hbd⟩ := hB j hj
  refine q_callV (rest := []) C (c_X6_openBuilder l D cy N0 (h) x sl bl kr vr hm ca mv ed f g j b rw_ 0 kd ln e2 rt hT hsl hbl hj hbd) kX6_openBuilder g1015 g1017 rfl gp31 g1 hP hS hT (by first | decide | omega) hl.1 rfl (by decide) (by first | decide | omega) dX6_build_12 (fun q ce E h' H1 locs1 hE hP hS hc1 hc2 hc3 => by obtain ⟨rfl, rfl, -⟩ := hE; exact q_out C hP hS hc1 hc2 hc3 ⟨rfl, Or.inr ⟨rfl, ⟨gc0, gc1⟩⟩⟩ (by omega)) (fun v hh3 H locs hq hP hS => ?_)
  exact absurd rfl hq.2.2

theorem dX6_look_0 : decode cX6_look 0 = .ok (.iload_n 1, 1) := by decide +kernel
theorem dX6_look_1 : decode cX6_look 1 = .ok (.iconst 3, 1) := by decide +kernel
theorem dX6_look_2 : decode cX6_look 2 = .ok (.invokestatic 43, 3) := by decide +kernel
theorem dX6_look_5 : decode cX6_look 5 = .ok (.aload_n 0, 1) := by decide +kernel
theorem dX6_look_6 : decode cX6_look 6 = .ok (.iload_n 1, 1) := by decide +kernel
theorem dX6_look_7 : decode cX6_look 7 = .ok (.invokevirtual 330, 3) := by decide +kernel
set_option maxRecDepth 100000 in
set_option maxHeartbeats 4000000 in
theorem c_X6_look_0 (l : Launch) (D : va_G) (cy : Nat → ClassId) (N0 : Nat) (h : qH) (x sl bl kr vr : Nat) (hm ca mv ed : Int32) (f : Nat → Option Nat) (g : Nat → Option Nat) (p0 : Int32) (p1 : Int64) (hT : h x = some (.inr (6, [.int hm, .ref sl, .ref bl, .ref kr, .ref vr, .int ca, .int mv, .int ed]))) (hsl : h sl = some (.inl (cy 3, 24, .inr (.inr (.inr (.inr f)))))) (hF : ∀ i, i < 24 → f i = none) (hbl : h bl = some (.inl (cy 2, 4, .inr (.inr (.inr (.inr g)))))) (hB : ∀ j, j < 4 → ∃ (b rw : Nat) (kd ln e2 : Int32) (rt : Option Nat), qBd h g j b rw 0 kd ln e2 rt) : qC l D cy N0 yX6_look cX6_look 5 (some .long) 9 160 6 36 [.ref x, .int p0, .long p1] h (fun v h' => False) (fun E h' => h = h' ∧ ((E = "java/lang/IllegalArgumentException" ∧ ¬ (qIn p0 3)) ∨ (E = "java/lang/IllegalStateException" ∧ qIn p0 3))) := by
  refine q_ofW (by decide) (by exact Nat.le_of_ble_eq_true rfl) ?_
  intro p e s m below meth c ls C hP hl
  have hx := C.1
  have hb := C.2.1
  have hS : va_S (qA N0) s.heap s.heap [] := va_S.rf
  have hl : lv_has ls 5 [(0, .ref x), (1, .int p0), (2, .long p1)] := hl
  refine lv_iload_n hx hb dX6_look_0 rfl (lv_at hl 1 rfl) ?_
  refine lv_iconst (v := 3) hx hb dX6_look_1 (by decide) ?_
  refine q_callS (rest := []) C (c_X6_needWithin l D cy N0 (h) p0 3) kX6_needWithin g107 g108 hP hS (by first | decide | omega) hl.1 rfl (by decide) (by first | decide | omega) dX6_look_2 (fun q ce E h' H1 locs1 hE hP hS hc1 hc2 hc3 => by obtain ⟨rfl, rfl, hq⟩ := hE; exact q_out C hP hS hc1 hc2 hc3 ⟨rfl, Or.inl ⟨rfl, fun g => hq.elim g.1 (fun q => q g.2)⟩⟩ (by omega)) (fun v hh1 H locs hq hP hS => ?_)
  obtain ⟨rfl, rfl, gd1, gd2⟩ := hq; have gc0 : qIn p0 3 := ⟨gd1, gd2⟩
  refine lv_aload_n hx hb dX6_look_5 rfl (lv_at hl 0 rfl) ?_
  refine lv_iload_n hx hb dX6_look_6 rfl (lv_at hl 1 rfl) ?_
  obtain ⟨j, hj, rfl⟩ := gc0.of3
  obtain ⟨b, rw_, kd, ln, e2, rt, hbd⟩ := hB j hj
  refine q_callV (rest := []) C (c_X6_openBuilder l D cy N0 (h) x sl bl kr vr hm ca mv ed f g j b rw_ 0 kd ln e2 rt hT hsl hbl hj hbd) kX6_openBuilder g1015 g1017 rfl gp31 g1 hP hS hT (by first | decide | omega) hl.1 rfl (by decide) (by first | decide | omega) dX6_look_7 (fun q ce E h' H1 locs1 hE hP hS hc1 hc2 hc3 => by obtain ⟨rfl, rfl, -⟩ := hE; exact q_out C hP hS hc1 hc2 hc3 ⟨rfl, Or.inr ⟨rfl, gc0⟩⟩ (by omega)) (fun v hh2 H locs hq hP hS => ?_)
  exact absurd rfl hq.2.2

theorem dX6_freeze_0 : decode cX6_freeze 0 = .ok (.iload_n 1, 1) := by decide +kernel
theorem dX6_freeze_1 : decode cX6_freeze 1 = .ok (.iconst 3, 1) := by decide +kernel
theorem dX6_freeze_2 : decode cX6_freeze 2 = .ok (.invokestatic 43, 3) := by decide +kernel
theorem dX6_freeze_5 : decode cX6_freeze 5 = .ok (.iload_n 2, 1) := by decide +kernel
theorem dX6_freeze_6 : decode cX6_freeze 6 = .ok (.invokestatic 39, 3) := by decide +kernel
theorem dX6_freeze_9 : decode cX6_freeze 9 = .ok (.aload_n 0, 1) := by decide +kernel
theorem dX6_freeze_10 : decode cX6_freeze 10 = .ok (.iload_n 2, 1) := by decide +kernel
theorem dX6_freeze_11 : decode cX6_freeze 11 = .ok (.aload_n 0, 1) := by decide +kernel
theorem dX6_freeze_12 : decode cX6_freeze 12 = .ok (.iload_n 1, 1) := by decide +kernel
theorem dX6_freeze_13 : decode cX6_freeze 13 = .ok (.invokevirtual 330, 3) := by decide +kernel
set_option maxRecDepth 100000 in
set_option maxHeartbeats 4000000 in
theorem c_X6_freeze_0 (l : Launch) (D : va_G) (cy : Nat → ClassId) (N0 : Nat) (h : qH) (x sl bl kr vr : Nat) (hm ca mv ed : Int32) (f : Nat → Option Nat) (g : Nat → Option Nat) (p0 : Int32) (p1 : Int32) (hT : h x = some (.inr (6, [.int hm, .ref sl, .ref bl, .ref kr, .ref vr, .int ca, .int mv, .int ed]))) (hsl : h sl = some (.inl (cy 3, 24, .inr (.inr (.inr (.inr f)))))) (hF : ∀ i, i < 24 → f i = none) (hbl : h bl = some (.inl (cy 2, 4, .inr (.inr (.inr (.inr g)))))) (hB : ∀ j, j < 4 → ∃ (b rw : Nat) (kd ln e2 : Int32) (rt : Option Nat), qBd h g j b rw 0 kd ln e2 rt) : qC l D cy N0 yX6_freeze cX6_freeze 3 (some .int) 9 160 6 36 [.ref x, .int p0, .int p1] h (fun v h' => False) (fun E h' => h = h' ∧ ((E = "java/lang/IllegalArgumentException" ∧ ¬ (qIn p0 3 ∧ qSl p1)) ∨ (E = "java/lang/IllegalStateException" ∧ qIn p0 3 ∧ qSl p1))) := by
  refine q_ofW (by decide) (by exact Nat.le_of_ble_eq_true rfl) ?_
  intro p e s m below meth c ls C hP hl
  have hx := C.1
  have hb := C.2.1
  have hS : va_S (qA N0) s.heap s.heap [] := va_S.rf
  have hl : lv_has ls 3 [(0, .ref x), (1, .int p0), (2, .int p1)] := hl
  refine lv_iload_n hx hb dX6_freeze_0 rfl (lv_at hl 1 rfl) ?_
  refine lv_iconst (v := 3) hx hb dX6_freeze_1 (by decide) ?_
  refine q_callS (rest := []) C (c_X6_needWithin l D cy N0 (h) p0 3) kX6_needWithin g107 g108 hP hS (by first | decide | omega) hl.1 rfl (by decide) (by first | decide | omega) dX6_freeze_2 (fun q ce E h' H1 locs1 hE hP hS hc1 hc2 hc3 => by obtain ⟨rfl, rfl, hq⟩ := hE; exact q_out C hP hS hc1 hc2 hc3 ⟨rfl, Or.inl ⟨rfl, fun g => hq.elim g.1.1 (fun q => q g.1.2)⟩⟩ (by omega)) (fun v hh1 H locs hq hP hS => ?_)
  obtain ⟨rfl, rfl, gd1, gd2⟩ := hq; have gc0 : qIn p0 3 := ⟨gd1, gd2⟩
  refine lv_iload_n hx hb dX6_freeze_5 rfl (lv_at hl 2 rfl) ?_
  refine q_callS (rest := []) C (c_X6_needSlot l D cy N0 (h) p1) kX6_needSlot g104 g105 hP hS (by first | decide | omega) hl.1 rfl (by decide) (by first | decide | omega) dX6_freeze_6 (fun q ce E h' H1 locs1 hE hP hS hc1 hc2 hc3 => by obtain ⟨rfl, rfl, hq⟩ := hE; exact q_out C hP hS hc1 hc2 hc3 ⟨rfl, Or.inl ⟨rfl, fun g => hq g.2⟩⟩ (by omega)) (fun v hh2 H locs hq hP hS => ?_)
  obtain ⟨rfl, rfl, gc1⟩ := hq
  refine lv_aload_n hx hb dX6_freeze_9 rfl (lv_at hl 0 rfl) ?_
  refine lv_iload_n hx hb dX6_freeze_10 rfl (lv_at hl 2 rfl) ?_
  refine lv_aload_n hx hb dX6_freeze_11 rfl (lv_at hl 0 rfl) ?_
  refine lv_iload_n hx hb dX6_freeze_12 rfl (lv_at hl 1 rfl) ?_
  obtain ⟨j, hj, rfl⟩ := gc0.of3
  obtain ⟨b, rw_, kd, ln, e2, rt, hbd⟩ := hB j hj
  refine q_callV (rest := [.int p1, .ref x]) C (c_X6_openBuilder l D cy N0 (h) x sl bl kr vr hm ca mv ed f g j b rw_ 0 kd ln e2 rt hT hsl hbl hj hbd) kX6_openBuilder g1015 g1017 rfl gp31 g1 hP hS hT (by first | decide | omega) hl.1 rfl (by simp [q_catrf, q_cati, q_catl, q_cata, q_catn]) (by first | decide | omega) dX6_freeze_13 (fun q ce E h' H1 locs1 hE hP hS hc1 hc2 hc3 => by obtain ⟨rfl, rfl, -⟩ := hE; exact q_out C hP hS hc1 hc2 hc3 ⟨rfl, Or.inr ⟨rfl, ⟨gc0, gc1⟩⟩⟩ (by omega)) (fun v hh3 H locs hq hP hS => ?_)
  exact absurd rfl hq.2.2
