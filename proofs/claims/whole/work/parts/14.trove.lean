/-- what a slot holds: a Held whose parts have sizes -/
def qHd (h : qH) (a : Nat) (k : Int32) (x1 x2 x3 x4 : Option Nat) (dp t : Int32) : Prop := h a = some (.inr (2, [.int k, va_rf x1, va_rf x2, va_rf x3, va_rf x4, .int dp])) ∧ ∃ t1 t2 t3 : Int32, qFi h 0 5 x1 t1 ∧ qFi h 3 4 x2 t2 ∧ qFi h 4 3 x3 t3 ∧ t = t1 + t2 + t3
def qHs (h : qH) (f : Nat → Option Nat) : Prop := ∀ i, i < 24 → ∀ a, f i = some a → ∃ (k : Int32) (x1 x2 x3 x4 : Option Nat) (dp t : Int32), qHd h a k x1 x2 x3 x4 dp t

theorem dX6_nextEdit_0 : decode cX6_nextEdit 0 = .ok (.aload_n 0, 1) := by decide +kernel
theorem dX6_nextEdit_1 : decode cX6_nextEdit 1 = .ok (.dup, 1) := by decide +kernel
theorem dX6_nextEdit_2 : decode cX6_nextEdit 2 = .ok (.getfield 404, 3) := by decide +kernel
theorem dX6_nextEdit_5 : decode cX6_nextEdit 5 = .ok (.iconst 1, 1) := by decide +kernel
theorem dX6_nextEdit_6 : decode cX6_nextEdit 6 = .ok (.iadd, 1) := by decide +kernel
theorem dX6_nextEdit_7 : decode cX6_nextEdit 7 = .ok (.putfield 404, 3) := by decide +kernel
theorem dX6_nextEdit_10 : decode cX6_nextEdit 10 = .ok (.aload_n 0, 1) := by decide +kernel
theorem dX6_nextEdit_11 : decode cX6_nextEdit 11 = .ok (.getfield 404, 3) := by decide +kernel
theorem dX6_nextEdit_14 : decode cX6_nextEdit 14 = .ok (.ireturn, 1) := by decide +kernel
set_option maxRecDepth 100000 in
set_option maxHeartbeats 4000000 in
theorem c_X6_nextEdit (l : Launch) (D : va_G) (cy : Nat → ClassId) (N0 : Nat) (h : qH) (x sl bl kr vr : Nat) (hm ca mv ed : Int32) (f : Nat → Option Nat) (hT : h x = some (.inr (6, [.int hm, .ref sl, .ref bl, .ref kr, .ref vr, .int ca, .int mv, .int ed]))) (hsl : h sl = some (.inl (cy 3, 24, .inr (.inr (.inr (.inr f)))))) : qC l D cy N0 yX6_nextEdit cX6_nextEdit 1 (some .int) 0 0 0 0 [.ref x] h (fun v h' => v = some (.int (ed + 1)) ∧ h' = qs h x (.inr (6, [.int hm, .ref sl, .ref bl, .ref kr, .ref vr, .int ca, .int mv, .int (ed + 1)]))) (fun E h' => False) := by
  refine q_ofW (by decide) (by exact Nat.le_of_ble_eq_true rfl) ?_
  intro p e s m below meth c ls C hP hl
  have hx := C.1
  have hb := C.2.1
  have hS : va_S (qA N0) s.heap s.heap [] := va_S.rf
  have hl : lv_has ls 1 [(0, .ref x)] := hl
  refine lv_aload_n hx hb dX6_nextEdit_0 rfl (lv_at hl 0 rfl) ?_
  refine lv_dup hx hb dX6_nextEdit_1 rfl ?_
  refine q_get C hP hT rfl inX6 7 (by decide) g75 rfl dX6_nextEdit_2 ?_
  refine lv_iconst (v := 1) hx hb dX6_nextEdit_5 (by decide) ?_
  refine lv_iadd hx hb dX6_nextEdit_6 ?_
  refine q_put C hP hS hT rfl inX6 tyX6 tyX6_ok nmX6 7 (by decide) g75 rfl rfl rfl (Nat.le_of_ble_eq_true rfl) dX6_nextEdit_7 (fun H locs hP hS => ?_)
  replace hsl := (qs_ne (h := h) (a := x) (o := (.inr (6, [.int hm, .ref sl, .ref bl, .ref kr, .ref vr, .int ca, .int mv, .int (ed + 1)]))) (fun q => by subst q; have := hsl.symm.trans hT; first | cases this | simp at this)).trans hsl
  replace hT : (qs h x (.inr (6, [.int hm, .ref sl, .ref bl, .ref kr, .ref vr, .int ca, .int mv, .int (ed + 1)]))) x = some (.inr (6, [.int hm, .ref sl, .ref bl, .ref kr, .ref vr, .int ca, .int mv, .int (ed + 1)])) := qs_self
  replace hP : qP D N0 (qs h x (.inr (6, [.int hm, .ref sl, .ref bl, .ref kr, .ref vr, .int ca, .int mv, .int (ed + 1)]))) H := hP
  refine lv_aload_n hx hb dX6_nextEdit_10 rfl (lv_at hl 0 rfl) ?_
  refine q_get C hP hT rfl inX6 7 (by decide) g75 rfl dX6_nextEdit_11 ?_
  exact q_iret C hP hS ⟨rfl, rfl⟩ (by omega) dX6_nextEdit_14

theorem dX6_takeMoves_0 : decode cX6_takeMoves 0 = .ok (.iload_n 1, 1) := by decide +kernel
theorem dX6_takeMoves_1 : decode cX6_takeMoves 1 = .ok (.sipush 20000, 3) := by decide +kernel
theorem dX6_takeMoves_4 : decode cX6_takeMoves 4 = .ok (.aload_n 0, 1) := by decide +kernel
theorem dX6_takeMoves_5 : decode cX6_takeMoves 5 = .ok (.getfield 360, 3) := by decide +kernel
theorem dX6_takeMoves_8 : decode cX6_takeMoves 8 = .ok (.isub, 1) := by decide +kernel
theorem dX6_takeMoves_9 : decode cX6_takeMoves 9 = .ok (.if_icmp .le 14, 3) := by decide +kernel
theorem dX6_takeMoves_12 : decode cX6_takeMoves 12 = .ok (.new 389, 3) := by decide +kernel
theorem dX6_takeMoves_15 : decode cX6_takeMoves 15 = .ok (.dup, 1) := by decide +kernel
theorem dX6_takeMoves_16 : decode cX6_takeMoves 16 = .ok (.ldc_w 398, 3) := by decide +kernel
theorem dX6_takeMoves_19 : decode cX6_takeMoves 19 = .ok (.invokespecial 393, 3) := by decide +kernel
theorem dX6_takeMoves_22 : decode cX6_takeMoves 22 = .ok (.athrow, 1) := by decide +kernel
theorem dX6_takeMoves_23 : decode cX6_takeMoves 23 = .ok (.aload_n 0, 1) := by decide +kernel
theorem dX6_takeMoves_24 : decode cX6_takeMoves 24 = .ok (.dup, 1) := by decide +kernel
theorem dX6_takeMoves_25 : decode cX6_takeMoves 25 = .ok (.getfield 360, 3) := by decide +kernel
theorem dX6_takeMoves_28 : decode cX6_takeMoves 28 = .ok (.iload_n 1, 1) := by decide +kernel
theorem dX6_takeMoves_29 : decode cX6_takeMoves 29 = .ok (.iadd, 1) := by decide +kernel
theorem dX6_takeMoves_30 : decode cX6_takeMoves 30 = .ok (.putfield 360, 3) := by decide +kernel
theorem dX6_takeMoves_33 : decode cX6_takeMoves 33 = .ok (.return_, 1) := by decide +kernel
set_option maxRecDepth 100000 in
set_option maxHeartbeats 4000000 in
theorem c_X6_takeMoves (l : Launch) (D : va_G) (cy : Nat → ClassId) (N0 : Nat) (h : qH) (x sl bl kr vr : Nat) (hm ca mv ed : Int32) (f : Nat → Option Nat) (n : Int32) (hT : h x = some (.inr (6, [.int hm, .ref sl, .ref bl, .ref kr, .ref vr, .int ca, .int mv, .int ed]))) (hsl : h sl = some (.inl (cy 3, 24, .inr (.inr (.inr (.inr f)))))) : qC l D cy N0 yX6_takeMoves cX6_takeMoves 2 none 6 82 1 6 [.ref x, .int n] h (fun v h' => v = none ∧ h' = qs h x (.inr (6, [.int hm, .ref sl, .ref bl, .ref kr, .ref vr, .int ca, .int (mv + n), .int ed])) ∧ n ≤ 20000 - mv) (fun E h' => E = "java/lang/IndexOutOfBoundsException" ∧ h = h' ∧ ¬ n ≤ 20000 - mv) := by
  refine q_ofW (by decide) (by exact Nat.le_of_ble_eq_true rfl) ?_
  intro p e s m below meth c ls C hP hl
  have hx := C.1
  have hb := C.2.1
  have hS : va_S (qA N0) s.heap s.heap [] := va_S.rf
  have hl : lv_has ls 2 [(0, .ref x), (1, .int n)] := hl
  refine lv_iload_n hx hb dX6_takeMoves_0 rfl (lv_at hl 1 rfl) ?_
  refine lv_sipush (v := 20000) hx hb dX6_takeMoves_1 (by decide) ?_
  refine lv_aload_n hx hb dX6_takeMoves_4 rfl (lv_at hl 0 rfl) ?_
  refine q_get C hP hT rfl inX6 6 (by decide) g74 rfl dX6_takeMoves_5 ?_
  refine lv_isub hx hb dX6_takeMoves_8 ?_
  refine lv_icmp_le (tgt := 23) hx hb dX6_takeMoves_9 (by decide) (fun c9 => ?_) (fun c9 => ?_)
  · refine lv_aload_n hx hb dX6_takeMoves_23 rfl (lv_at hl 0 rfl) ?_
    refine lv_dup hx hb dX6_takeMoves_24 rfl ?_
    refine q_get C hP hT rfl inX6 6 (by decide) g74 rfl dX6_takeMoves_25 ?_
    refine lv_iload_n hx hb dX6_takeMoves_28 rfl (lv_at hl 1 rfl) ?_
    refine lv_iadd hx hb dX6_takeMoves_29 ?_
    refine q_put C hP hS hT rfl inX6 tyX6 tyX6_ok nmX6 6 (by decide) g74 rfl rfl rfl (Nat.le_of_ble_eq_true rfl) dX6_takeMoves_30 (fun H locs hP hS => ?_)
    replace hsl := (qs_ne (h := h) (a := x) (o := (.inr (6, [.int hm, .ref sl, .ref bl, .ref kr, .ref vr, .int ca, .int (mv + n), .int ed]))) (fun q => by subst q; have := hsl.symm.trans hT; first | cases this | simp at this)).trans hsl
    replace hT : (qs h x (.inr (6, [.int hm, .ref sl, .ref bl, .ref kr, .ref vr, .int ca, .int (mv + n), .int ed]))) x = some (.inr (6, [.int hm, .ref sl, .ref bl, .ref kr, .ref vr, .int ca, .int (mv + n), .int ed])) := qs_self
    replace hP : qP D N0 (qs h x (.inr (6, [.int hm, .ref sl, .ref bl, .ref kr, .ref vr, .int ca, .int (mv + n), .int ed]))) H := hP
    exact q_vret C hP hS ⟨rfl, rfl, c9⟩ (by omega) dX6_takeMoves_33
  · exact q_throw (text := "more moves than there may be") C kt_IOB (by decide) hP hS hl.1 dX6_takeMoves_12 dX6_takeMoves_15 dX6_takeMoves_16 dX6_takeMoves_19 dX6_takeMoves_22 (by simp [q_catrf, q_cati, q_catl, q_cata, q_catn]) (by omega) ⟨rfl, rfl, c9⟩

theorem dX6_heldIn_0 : decode cX6_heldIn 0 = .ok (.iload_n 1, 1) := by decide +kernel
theorem dX6_heldIn_1 : decode cX6_heldIn 1 = .ok (.invokestatic 39, 3) := by decide +kernel
theorem dX6_heldIn_4 : decode cX6_heldIn 4 = .ok (.aload_n 0, 1) := by decide +kernel
theorem dX6_heldIn_5 : decode cX6_heldIn 5 = .ok (.getfield 11, 3) := by decide +kernel
theorem dX6_heldIn_8 : decode cX6_heldIn 8 = .ok (.iload_n 1, 1) := by decide +kernel
theorem dX6_heldIn_9 : decode cX6_heldIn 9 = .ok (.aaload, 1) := by decide +kernel
theorem dX6_heldIn_10 : decode cX6_heldIn 10 = .ok (.astore_n 3, 1) := by decide +kernel
theorem dX6_heldIn_11 : decode cX6_heldIn 11 = .ok (.aload_n 3, 1) := by decide +kernel
theorem dX6_heldIn_12 : decode cX6_heldIn 12 = .ok (.ifnull 14, 3) := by decide +kernel
theorem dX6_heldIn_15 : decode cX6_heldIn 15 = .ok (.iload_n 2, 1) := by decide +kernel
theorem dX6_heldIn_16 : decode cX6_heldIn 16 = .ok (.aload_n 3, 1) := by decide +kernel
theorem dX6_heldIn_17 : decode cX6_heldIn 17 = .ok (.getfield 63, 3) := by decide +kernel
theorem dX6_heldIn_20 : decode cX6_heldIn 20 = .ok (.ishr, 1) := by decide +kernel
theorem dX6_heldIn_21 : decode cX6_heldIn 21 = .ok (.iconst 1, 1) := by decide +kernel
theorem dX6_heldIn_22 : decode cX6_heldIn 22 = .ok (.iand, 1) := by decide +kernel
theorem dX6_heldIn_23 : decode cX6_heldIn 23 = .ok (.ifCond .ne 14, 3) := by decide +kernel
theorem dX6_heldIn_26 : decode cX6_heldIn 26 = .ok (.new 319, 3) := by decide +kernel
theorem dX6_heldIn_29 : decode cX6_heldIn 29 = .ok (.dup, 1) := by decide +kernel
theorem dX6_heldIn_30 : decode cX6_heldIn 30 = .ok (.ldc_w 400, 3) := by decide +kernel
theorem dX6_heldIn_33 : decode cX6_heldIn 33 = .ok (.invokespecial 323, 3) := by decide +kernel
theorem dX6_heldIn_36 : decode cX6_heldIn 36 = .ok (.athrow, 1) := by decide +kernel
theorem dX6_heldIn_37 : decode cX6_heldIn 37 = .ok (.aload_n 3, 1) := by decide +kernel
theorem dX6_heldIn_38 : decode cX6_heldIn 38 = .ok (.areturn, 1) := by decide +kernel
set_option maxRecDepth 100000 in
set_option maxHeartbeats 4000000 in
/-- what a slot holds, of the kinds ks -/
theorem c_X6_heldIn (l : Launch) (D : va_G) (cy : Nat → ClassId) (N0 : Nat) (h : qH) (x sl bl kr vr : Nat) (hm ca mv ed : Int32) (f : Nat → Option Nat) (n ks : Int32) (hT : h x = some (.inr (6, [.int hm, .ref sl, .ref bl, .ref kr, .ref vr, .int ca, .int mv, .int ed]))) (hsl : h sl = some (.inl (cy 3, 24, .inr (.inr (.inr (.inr f)))))) (hH : qHs h f) : qC l D cy N0 yX6_heldIn cX6_heldIn 4 (some (.object RX2)) 8 125 2 12 [.ref x, .int n, .int ks] h (fun v h' => h = h' ∧ ∃ (i a : Nat) (k : Int32) (x1 x2 x3 x4 : Option Nat) (dp t : Int32), i < 24 ∧ n = nI i ∧ f i = some a ∧ v = some (.ref a) ∧ qHd h a k x1 x2 x3 x4 dp t ∧ ¬ (ks >>> (k &&& 31)) &&& 1 = 0) (fun E h' => h = h' ∧ ((E = "java/lang/IllegalArgumentException" ∧ ¬ qSl n) ∨ (E = "java/lang/IllegalStateException" ∧ ∃ i : Nat, i < 24 ∧ n = nI i ∧ (f i = none ∨ ∃ (a : Nat) (k : Int32) (x1 x2 x3 x4 : Option Nat) (dp t : Int32), f i = some a ∧ qHd h a k x1 x2 x3 x4 dp t ∧ (ks >>> (k &&& 31)) &&& 1 = 0)))) := by
  refine q_ofW (by decide) (by exact Nat.le_of_ble_eq_true rfl) ?_
  intro p e s m below meth c ls C hP hl
  have hx := C.1
  have hb := C.2.1
  have hS : va_S (qA N0) s.heap s.heap [] := va_S.rf
  have hl : lv_has ls 4 [(0, .ref x), (1, .int n), (2, .int ks)] := hl
  refine lv_iload_n hx hb dX6_heldIn_0 rfl (lv_at hl 1 rfl) ?_
  refine q_callS (rest := []) C (c_X6_needSlot l D cy N0 (h) n) kX6_needSlot g104 g105 hP hS (by first | decide | omega) hl.1 rfl (by decide) (by first | decide | omega) dX6_heldIn_1 (fun q ce E h' H1 locs1 hE hP hS hc1 hc2 hc3 => by obtain ⟨rfl, rfl, hq⟩ := hE; exact q_out C hP hS hc1 hc2 hc3 ⟨rfl, Or.inl ⟨rfl, hq⟩⟩ (by omega)) (fun v hh1 H locs hq hP hS => ?_)
  obtain ⟨rfl, rfl, gs⟩ := hq
  obtain ⟨i, hi, rfl⟩ := gs.of
  refine lv_aload_n hx hb dX6_heldIn_4 rfl (lv_at hl 0 rfl) ?_
  refine q_get C hP hT rfl inX6 1 (by decide) g69 rfl dX6_heldIn_5 ?_
  refine lv_iload_n hx hb dX6_heldIn_8 rfl (lv_at hl 1 rfl) ?_
  refine q_aaldN C hP hsl rfl (by omega) (by omega) dX6_heldIn_9 ?_
  refine q_astore_n (lv' := [(3, va_rf (f i)), (0, .ref x), (1, .int (nI i)), (2, .int ks)]) hx hb dX6_heldIn_10 rfl hl (by decide) rfl (fun ls hl => ?_)
  refine q_aload_n hx hb dX6_heldIn_11 rfl (lv_at hl 0 rfl) ?_
  rcases hfi : f i with _ | a
  · rw [hfi] at hl
    refine lv_ifnullN (tgt := 26) hx hb dX6_heldIn_12 (by decide) ?_
    exact q_throw (text := "the slot holds none of this kind") C kt_ISE (by decide) hP hS hl.1 dX6_heldIn_26 dX6_heldIn_29 dX6_heldIn_30 dX6_heldIn_33 dX6_heldIn_36 (by simp [q_catrf, q_cati, q_catl, q_cata, q_catn]) (by omega) ⟨rfl, Or.inr ⟨rfl, i, hi, rfl, Or.inl hfi⟩⟩
  · rw [hfi] at hl
    obtain ⟨k, x1, x2, x3, x4, dp, t, ha, ht⟩ := hH i hi a hfi
    refine lv_ifnull hx hb dX6_heldIn_12 ?_
    refine lv_iload_n hx hb dX6_heldIn_15 rfl (lv_at hl 3 rfl) ?_
    refine lv_aload_n hx hb dX6_heldIn_16 rfl (lv_at hl 0 rfl) ?_
    refine q_get C hP ha rfl inX2 0 (by decide) g192 rfl dX6_heldIn_17 ?_
    refine lv_ishr hx hb dX6_heldIn_20 ?_
    refine lv_iconst (v := 1) hx hb dX6_heldIn_21 (by decide) ?_
    refine lv_iand hx hb dX6_heldIn_22 ?_
    refine lv_if_ne (tgt := 37) hx hb dX6_heldIn_23 (by decide) (fun c23 => ?_) (fun c23 => ?_)
    · refine lv_aload_n hx hb dX6_heldIn_37 rfl (lv_at hl 0 rfl) ?_
      exact q_aret (v := some a) C (Or.inl ⟨_, rfl⟩) hP hS ⟨rfl, i, a, k, x1, x2, x3, x4, dp, t, hi, rfl, hfi, rfl, ⟨ha, ht⟩, c23⟩ (by omega) dX6_heldIn_38
    · exact q_throw (text := "the slot holds none of this kind") C kt_ISE (by decide) hP hS hl.1 dX6_heldIn_26 dX6_heldIn_29 dX6_heldIn_30 dX6_heldIn_33 dX6_heldIn_36 (by simp [q_catrf, q_cati, q_catl, q_cata, q_catn]) (by omega) ⟨rfl, Or.inr ⟨rfl, i, hi, rfl, Or.inr ⟨a, k, x1, x2, x3, x4, dp, t, hfi, ⟨ha, ht⟩, c23⟩⟩⟩

theorem dX6_keep_0 : decode cX6_keep 0 = .ok (.aload_n 0, 1) := by decide +kernel
theorem dX6_keep_1 : decode cX6_keep 1 = .ok (.getfield 11, 3) := by decide +kernel
theorem dX6_keep_4 : decode cX6_keep 4 = .ok (.iload_n 1, 1) := by decide +kernel
theorem dX6_keep_5 : decode cX6_keep 5 = .ok (.aload_n 2, 1) := by decide +kernel
theorem dX6_keep_6 : decode cX6_keep 6 = .ok (.aastore, 1) := by decide +kernel
theorem dX6_keep_7 : decode cX6_keep 7 = .ok (.aload_n 2, 1) := by decide +kernel
theorem dX6_keep_8 : decode cX6_keep 8 = .ok (.invokevirtual 59, 3) := by decide +kernel
theorem dX6_keep_11 : decode cX6_keep 11 = .ok (.ireturn, 1) := by decide +kernel
set_option maxRecDepth 100000 in
set_option maxHeartbeats 4000000 in
theorem c_X6_keep (l : Launch) (D : va_G) (cy : Nat → ClassId) (N0 : Nat) (h : qH) (x sl bl kr vr : Nat) (hm ca mv ed : Int32) (f : Nat → Option Nat) (i a : Nat) (k : Int32) (x1 x2 x3 x4 : Option Nat) (dp t : Int32) (hT : h x = some (.inr (6, [.int hm, .ref sl, .ref bl, .ref kr, .ref vr, .int ca, .int mv, .int ed]))) (hsl : h sl = some (.inl (cy 3, 24, .inr (.inr (.inr (.inr f)))))) (hi : i < 24) (hA : qHd h a k x1 x2 x3 x4 dp t) : qC l D cy N0 yX6_keep cX6_keep 3 (some .int) 2 40 0 0 [.ref x, .int (nI i), .ref a] h (fun v h' => v = some (.int t) ∧ h' = qs h sl (.inl (cy 3, 24, .inr (.inr (.inr (.inr (va_up f i (some a)))))))) (fun E h' => False) := by
  refine q_ofW (by decide) (by exact Nat.le_of_ble_eq_true rfl) ?_
  intro p e s m below meth c ls C hP hl
  have hx := C.1
  have hb := C.2.1
  have hS : va_S (qA N0) s.heap s.heap [] := va_S.rf
  have hl : lv_has ls 3 [(0, .ref x), (1, .int (nI i)), (2, .ref a)] := hl
  obtain ⟨ha, t1, t2, t3, h1, h2, h3, rfl⟩ := hA
  have hsl0 := hsl
  refine lv_aload_n hx hb dX6_keep_0 rfl (lv_at hl 0 rfl) ?_
  refine q_get C hP hT rfl inX6 1 (by decide) g69 rfl dX6_keep_1 ?_
  refine lv_iload_n hx hb dX6_keep_4 rfl (lv_at hl 1 rfl) ?_
  refine lv_aload_n hx hb dX6_keep_5 rfl (lv_at hl 2 rfl) ?_
  refine q_aastN (rc := (RX2, TX2, 6)) C rfl rfl hP hS hsl ha (by omega) (by omega) dX6_keep_6 (fun H locs hP hS => ?_)
  replace hT := (qs_ne (h := h) (a := sl) (o := (.inl (cy 3, 24, .inr (.inr (.inr (.inr (va_up f i (some a)))))))) (fun q => by subst q; have := hT.symm.trans hsl; first | cases this | simp at this)).trans hT
  replace ha := (qs_ne (h := h) (a := sl) (o := (.inl (cy 3, 24, .inr (.inr (.inr (.inr (va_up f i (some a)))))))) (fun q => by subst q; have := ha.symm.trans hsl; first | cases this | simp at this)).trans ha
  replace hsl : (qs h sl (.inl (cy 3, 24, .inr (.inr (.inr (.inr (va_up f i (some a)))))))) sl = some (.inl (cy 3, 24, .inr (.inr (.inr (.inr (va_up f i (some a))))))) := qs_self
  refine lv_aload_n hx hb dX6_keep_7 rfl (lv_at hl 2 rfl) ?_
  have h1 := h1.setl (x' := (cy 3, 24, .inr (.inr (.inr (.inr (va_up f i (some a))))))) hsl0
  have h2 := h2.setl (x' := (cy 3, 24, .inr (.inr (.inr (.inr (va_up f i (some a))))))) hsl0
  have h3 := h3.setl (x' := (cy 3, 24, .inr (.inr (.inr (.inr (va_up f i (some a))))))) hsl0
  refine q_callV (rest := []) C (c_X2_amount l D cy N0 (qs h sl (.inl (cy 3, 24, .inr (.inr (.inr (.inr (va_up f i (some a)))))))) a k dp t1 t2 t3 x1 x2 x3 x4 ha h1 h2 h3) kX2_amount g222 g223 rfl g224 g10 hP hS ha (by first | decide | omega) hl.1 rfl (by decide) (by first | decide | omega) dX6_keep_8 (fun q ce E h' H1 locs1 hE => hE.elim) (fun v hh1 H locs hq hP hS => ?_)
  obtain ⟨rfl, rfl⟩ := hq
  exact q_iret C hP hS ⟨rfl, rfl⟩ (by omega) dX6_keep_11
