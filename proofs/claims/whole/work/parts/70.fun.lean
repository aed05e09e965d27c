theorem dX6_needThere_0 : decode cX6_needThere 0 = .ok (.iload_n 0, 1) := by decide +kernel
theorem dX6_needThere_1 : decode cX6_needThere 1 = .ok (.ifCond .ne 14, 3) := by decide +kernel
theorem dX6_needThere_4 : decode cX6_needThere 4 = .ok (.new 381, 3) := by decide +kernel
theorem dX6_needThere_7 : decode cX6_needThere 7 = .ok (.dup, 1) := by decide +kernel
theorem dX6_needThere_8 : decode cX6_needThere 8 = .ok (.ldc_w 383, 3) := by decide +kernel
theorem dX6_needThere_11 : decode cX6_needThere 11 = .ok (.invokespecial 385, 3) := by decide +kernel
theorem dX6_needThere_14 : decode cX6_needThere 14 = .ok (.athrow, 1) := by decide +kernel
theorem dX6_needThere_15 : decode cX6_needThere 15 = .ok (.return_, 1) := by decide +kernel
set_option maxRecDepth 100000 in
set_option maxHeartbeats 4000000 in
theorem c_X6_needThere (l : Launch) (D : va_G) (cy : Nat → ClassId) (N0 : Nat) (h : qH) (z : Int32) : qC l D cy N0 yX6_needThere cX6_needThere 1 none 6 82 1 6 [.int z] h (fun v h' => v = none ∧ h = h' ∧ ¬ z = 0) (fun E h' => E = "java/util/NoSuchElementException" ∧ h = h' ∧ z = 0) := by
  refine q_ofW (by decide) (by exact Nat.le_of_ble_eq_true rfl) ?_
  intro p e s m below meth c ls C hP hl
  have hx := C.1
  have hb := C.2.1
  have hS : va_S (qA N0) s.heap s.heap [] := va_S.rf
  have hl : lv_has ls 1 [(0, .int z)] := hl
  have hle : qle h h := qle_rf
  refine lv_iload_n hx hb dX6_needThere_0 rfl (lv_at hl 0 rfl) ?_
  refine lv_if_ne (tgt := 15) hx hb dX6_needThere_1 (by decide) (fun c1 => ?_) (fun c1 => ?_)
  · exact q_vret C hP hS ⟨rfl, rfl, c1⟩ (by omega) dX6_needThere_15
  · exact q_throwN (text := "there is none") C (by decide) hP hS hl.1 dX6_needThere_4 dX6_needThere_7 dX6_needThere_8 dX6_needThere_11 dX6_needThere_14 (by simp [q_catrf, q_cati, q_catl, q_cata, q_catn]) (by omega) ⟨rfl, rfl, c1⟩

theorem dX6_needBranch_0 : decode cX6_needBranch 0 = .ok (.aload_n 0, 1) := by decide +kernel
theorem dX6_needBranch_1 : decode cX6_needBranch 1 = .ok (.ifnull 7, 3) := by decide +kernel
theorem dX6_needBranch_4 : decode cX6_needBranch 4 = .ok (.iconst 1, 1) := by decide +kernel
theorem dX6_needBranch_5 : decode cX6_needBranch 5 = .ok (.goto 4, 3) := by decide +kernel
theorem dX6_needBranch_8 : decode cX6_needBranch 8 = .ok (.iconst 0, 1) := by decide +kernel
theorem dX6_needBranch_9 : decode cX6_needBranch 9 = .ok (.invokestatic 169, 3) := by decide +kernel
theorem dX6_needBranch_12 : decode cX6_needBranch 12 = .ok (.aload_n 0, 1) := by decide +kernel
theorem dX6_needBranch_13 : decode cX6_needBranch 13 = .ok (.areturn, 1) := by decide +kernel
set_option maxRecDepth 100000 in
set_option maxHeartbeats 4000000 in
theorem c_X6_needBranch (l : Launch) (D : va_G) (cy : Nat → ClassId) (N0 : Nat) (h : qH) (r : Option Nat) : qC l D cy N0 yX6_needBranch cX6_needBranch 1 (some (.object RX0)) 7 103 1 6 [va_rf r] h (fun v h' => ∃ a, r = some a ∧ v = some (.ref a) ∧ h = h') (fun E h' => E = "java/util/NoSuchElementException" ∧ h = h' ∧ r = none) := by
  refine q_ofW (by decide) (by simp [lg_sl, q_catrf, q_cati, q_catl, q_cata, q_catn]) ?_
  intro p e s m below meth c ls C hP hl
  have hx := C.1
  have hb := C.2.1
  have hS : va_S (qA N0) s.heap s.heap [] := va_S.rf
  have hl : lv_has ls 1 [(0, va_rf r)] := hl
  have hle : qle h h := qle_rf
  cases r with
  | none =>
    refine lv_aload_nN hx hb dX6_needBranch_0 rfl (lv_at hl 0 rfl) ?_
    refine lv_ifnullN (tgt := 8) hx hb dX6_needBranch_1 (by decide) ?_
    refine lv_iconst (v := 0) hx hb dX6_needBranch_8 (by decide) ?_
    refine q_callS (rest := []) C (c_X6_needThere l D cy N0 h 0) kX6_needThere g598 g599 hP hS (by first | decide | omega) hl.1 rfl (by decide) (by first | decide | omega) dX6_needBranch_9 (fun q ce E h' H1 locs1 hE hP hS hc1 hc2 hc3 => by obtain ⟨rfl, rfl, hz9⟩ := hE; exact q_out C hP hS hc1 hc2 hc3 ⟨rfl, rfl, rfl⟩ (by omega)) (fun v hh1 H locs hq hP hS => ?_)
    obtain ⟨rfl, rfl, hz9⟩ := hq
    refine lv_aload_nN hx hb dX6_needBranch_12 rfl (lv_at hl 0 rfl) ?_
    exact absurd rfl hz9
  | some a =>
    refine lv_aload_n hx hb dX6_needBranch_0 rfl (lv_at hl 0 rfl) ?_
    refine lv_ifnull hx hb dX6_needBranch_1 ?_
    refine lv_iconst (v := 1) hx hb dX6_needBranch_4 (by decide) ?_
    refine lv_goto (tgt := 9) hx hb dX6_needBranch_5 (by decide) ?_
    refine q_callS (rest := []) C (c_X6_needThere l D cy N0 h 1) kX6_needThere g598 g599 hP hS (by first | decide | omega) hl.1 rfl (by decide) (by first | decide | omega) dX6_needBranch_9 (fun q ce E h' H1 locs1 hE hP hS hc1 hc2 hc3 => absurd hE.2.2 (by decide)) (fun v hh2 H locs hq hP hS => ?_)
    obtain ⟨rfl, rfl, hz9⟩ := hq
    refine lv_aload_n hx hb dX6_needBranch_12 rfl (lv_at hl 0 rfl) ?_
    exact q_aret (v := some a) C (Or.inl ⟨_, rfl⟩) hP hS ⟨a, rfl, rfl, rfl⟩ (by omega) dX6_needBranch_13

theorem dX6_needPile_0 : decode cX6_needPile 0 = .ok (.aload_n 0, 1) := by decide +kernel
theorem dX6_needPile_1 : decode cX6_needPile 1 = .ok (.ifnull 7, 3) := by decide +kernel
theorem dX6_needPile_4 : decode cX6_needPile 4 = .ok (.iconst 1, 1) := by decide +kernel
theorem dX6_needPile_5 : decode cX6_needPile 5 = .ok (.goto 4, 3) := by decide +kernel
theorem dX6_needPile_8 : decode cX6_needPile 8 = .ok (.iconst 0, 1) := by decide +kernel
theorem dX6_needPile_9 : decode cX6_needPile 9 = .ok (.invokestatic 169, 3) := by decide +kernel
theorem dX6_needPile_12 : decode cX6_needPile 12 = .ok (.aload_n 0, 1) := by decide +kernel
theorem dX6_needPile_13 : decode cX6_needPile 13 = .ok (.areturn, 1) := by decide +kernel
set_option maxRecDepth 100000 in
set_option maxHeartbeats 4000000 in
theorem c_X6_needPile (l : Launch) (D : va_G) (cy : Nat → ClassId) (N0 : Nat) (h : qH) (r : Option Nat) : qC l D cy N0 yX6_needPile cX6_needPile 1 (some (.object RX4)) 7 103 1 6 [va_rf r] h (fun v h' => ∃ a, r = some a ∧ v = some (.ref a) ∧ h = h') (fun E h' => E = "java/util/NoSuchElementException" ∧ h = h' ∧ r = none) := by
  refine q_ofW (by decide) (by simp [lg_sl, q_catrf, q_cati, q_catl, q_cata, q_catn]) ?_
  intro p e s m below meth c ls C hP hl
  have hx := C.1
  have hb := C.2.1
  have hS : va_S (qA N0) s.heap s.heap [] := va_S.rf
  have hl : lv_has ls 1 [(0, va_rf r)] := hl
  have hle : qle h h := qle_rf
  cases r with
  | none =>
    refine lv_aload_nN hx hb dX6_needPile_0 rfl (lv_at hl 0 rfl) ?_
    refine lv_ifnullN (tgt := 8) hx hb dX6_needPile_1 (by decide) ?_
    refine lv_iconst (v := 0) hx hb dX6_needPile_8 (by decide) ?_
    refine q_callS (rest := []) C (c_X6_needThere l D cy N0 h 0) kX6_needThere g598 g599 hP hS (by first | decide | omega) hl.1 rfl (by decide) (by first | decide | omega) dX6_needPile_9 (fun q ce E h' H1 locs1 hE hP hS hc1 hc2 hc3 => by obtain ⟨rfl, rfl, hz9⟩ := hE; exact q_out C hP hS hc1 hc2 hc3 ⟨rfl, rfl, rfl⟩ (by omega)) (fun v hh1 H locs hq hP hS => ?_)
    obtain ⟨rfl, rfl, hz9⟩ := hq
    refine lv_aload_nN hx hb dX6_needPile_12 rfl (lv_at hl 0 rfl) ?_
    exact absurd rfl hz9
  | some a =>
    refine lv_aload_n hx hb dX6_needPile_0 rfl (lv_at hl 0 rfl) ?_
    refine lv_ifnull hx hb dX6_needPile_1 ?_
    refine lv_iconst (v := 1) hx hb dX6_needPile_4 (by decide) ?_
    refine lv_goto (tgt := 9) hx hb dX6_needPile_5 (by decide) ?_
    refine q_callS (rest := []) C (c_X6_needThere l D cy N0 h 1) kX6_needThere g598 g599 hP hS (by first | decide | omega) hl.1 rfl (by decide) (by first | decide | omega) dX6_needPile_9 (fun q ce E h' H1 locs1 hE hP hS hc1 hc2 hc3 => absurd hE.2.2 (by decide)) (fun v hh2 H locs hq hP hS => ?_)
    obtain ⟨rfl, rfl, hz9⟩ := hq
    refine lv_aload_n hx hb dX6_needPile_12 rfl (lv_at hl 0 rfl) ?_
    exact q_aret (v := some a) C (Or.inl ⟨_, rfl⟩) hP hS ⟨a, rfl, rfl, rfl⟩ (by omega) dX6_needPile_13

theorem dX6_needStream_0 : decode cX6_needStream 0 = .ok (.aload_n 0, 1) := by decide +kernel
theorem dX6_needStream_1 : decode cX6_needStream 1 = .ok (.ifnull 7, 3) := by decide +kernel
theorem dX6_needStream_4 : decode cX6_needStream 4 = .ok (.iconst 1, 1) := by decide +kernel
theorem dX6_needStream_5 : decode cX6_needStream 5 = .ok (.goto 4, 3) := by decide +kernel
theorem dX6_needStream_8 : decode cX6_needStream 8 = .ok (.iconst 0, 1) := by decide +kernel
theorem dX6_needStream_9 : decode cX6_needStream 9 = .ok (.invokestatic 169, 3) := by decide +kernel
theorem dX6_needStream_12 : decode cX6_needStream 12 = .ok (.aload_n 0, 1) := by decide +kernel
theorem dX6_needStream_13 : decode cX6_needStream 13 = .ok (.areturn, 1) := by decide +kernel
set_option maxRecDepth 100000 in
set_option maxHeartbeats 4000000 in
theorem c_X6_needStream (l : Launch) (D : va_G) (cy : Nat → ClassId) (N0 : Nat) (h : qH) (r : Option Nat) : qC l D cy N0 yX6_needStream cX6_needStream 1 (some (.object RX5)) 7 103 1 6 [va_rf r] h (fun v h' => ∃ a, r = some a ∧ v = some (.ref a) ∧ h = h') (fun E h' => E = "java/util/NoSuchElementException" ∧ h = h' ∧ r = none) := by
  refine q_ofW (by decide) (by simp [lg_sl, q_catrf, q_cati, q_catl, q_cata, q_catn]) ?_
  intro p e s m below meth c ls C hP hl
  have hx := C.1
  have hb := C.2.1
  have hS : va_S (qA N0) s.heap s.heap [] := va_S.rf
  have hl : lv_has ls 1 [(0, va_rf r)] := hl
  have hle : qle h h := qle_rf
  cases r with
  | none =>
    refine lv_aload_nN hx hb dX6_needStream_0 rfl (lv_at hl 0 rfl) ?_
    refine lv_ifnullN (tgt := 8) hx hb dX6_needStream_1 (by decide) ?_
    refine lv_iconst (v := 0) hx hb dX6_needStream_8 (by decide) ?_
    refine q_callS (rest := []) C (c_X6_needThere l D cy N0 h 0) kX6_needThere g598 g599 hP hS (by first | decide | omega) hl.1 rfl (by decide) (by first | decide | omega) dX6_needStream_9 (fun q ce E h' H1 locs1 hE hP hS hc1 hc2 hc3 => by obtain ⟨rfl, rfl, hz9⟩ := hE; exact q_out C hP hS hc1 hc2 hc3 ⟨rfl, rfl, rfl⟩ (by omega)) (fun v hh1 H locs hq hP hS => ?_)
    obtain ⟨rfl, rfl, hz9⟩ := hq
    refine lv_aload_nN hx hb dX6_needStream_12 rfl (lv_at hl 0 rfl) ?_
    exact absurd rfl hz9
  | some a =>
    refine lv_aload_n hx hb dX6_needStream_0 rfl (lv_at hl 0 rfl) ?_
    refine lv_ifnull hx hb dX6_needStream_1 ?_
    refine lv_iconst (v := 1) hx hb dX6_needStream_4 (by decide) ?_
    refine lv_goto (tgt := 9) hx hb dX6_needStream_5 (by decide) ?_
    refine q_callS (rest := []) C (c_X6_needThere l D cy N0 h 1) kX6_needThere g598 g599 hP hS (by first | decide | omega) hl.1 rfl (by decide) (by first | decide | omega) dX6_needStream_9 (fun q ce E h' H1 locs1 hE hP hS hc1 hc2 hc3 => absurd hE.2.2 (by decide)) (fun v hh2 H locs hq hP hS => ?_)
    obtain ⟨rfl, rfl, hz9⟩ := hq
    refine lv_aload_n hx hb dX6_needStream_12 rfl (lv_at hl 0 rfl) ?_
    exact q_aret (v := some a) C (Or.inl ⟨_, rfl⟩) hP hS ⟨a, rfl, rfl, rfl⟩ (by omega) dX6_needStream_13

/-- what a function makes of x; nothing: a division by 0 -/
def xFn (w : Nat) (c x : Int64) : Option Int64 := if w = 0 then some (x + c) else if w = 1 then some (x * c) else if w = 2 then some (x &&& c) else if w = 3 then some (x ^^^ c) else if w = 4 then (if c = 0 then none else some (x / c)) else if w = 5 then (if x = 0 then none else some (c / x)) else (if c = 0 then none else some (x - x / c * c))
/-- does x pass the test -/
def xTs (w : Nat) (c x : Int64) : Option Bool := if w = 0 then some (decide (x.toInt < c.toInt)) else if w = 1 then some (decide (¬ (x &&& c) = 0)) else if w = 2 then some (decide (x = c)) else if w = 3 then (if c = 0 then none else some (decide (x - x / c * c = 0))) else some true
theorem dX6_applied_0 : decode cX6_applied 0 = .ok (.iload_n 0, 1) := by decide +kernel
theorem dX6_applied_1 : decode cX6_applied 1 = .ok (.tableswitch 71 0 5 #[39, 43, 47, 51, 55, 63], 39) := by decide +kernel
theorem dX6_applied_40 : decode cX6_applied 40 = .ok (.lload_n 1, 1) := by decide +kernel
theorem dX6_applied_41 : decode cX6_applied 41 = .ok (.lload_n 3, 1) := by decide +kernel
theorem dX6_applied_42 : decode cX6_applied 42 = .ok (.ladd, 1) := by decide +kernel
theorem dX6_applied_43 : decode cX6_applied 43 = .ok (.lreturn, 1) := by decide +kernel
theorem dX6_applied_44 : decode cX6_applied 44 = .ok (.lload_n 1, 1) := by decide +kernel
theorem dX6_applied_45 : decode cX6_applied 45 = .ok (.lload_n 3, 1) := by decide +kernel
theorem dX6_applied_46 : decode cX6_applied 46 = .ok (.lmul, 1) := by decide +kernel
theorem dX6_applied_47 : decode cX6_applied 47 = .ok (.lreturn, 1) := by decide +kernel
theorem dX6_applied_48 : decode cX6_applied 48 = .ok (.lload_n 1, 1) := by decide +kernel
theorem dX6_applied_49 : decode cX6_applied 49 = .ok (.lload_n 3, 1) := by decide +kernel
theorem dX6_applied_50 : decode cX6_applied 50 = .ok (.land, 1) := by decide +kernel
theorem dX6_applied_51 : decode cX6_applied 51 = .ok (.lreturn, 1) := by decide +kernel
theorem dX6_applied_52 : decode cX6_applied 52 = .ok (.lload_n 1, 1) := by decide +kernel
theorem dX6_applied_53 : decode cX6_applied 53 = .ok (.lload_n 3, 1) := by decide +kernel
theorem dX6_applied_54 : decode cX6_applied 54 = .ok (.lxor, 1) := by decide +kernel
theorem dX6_applied_55 : decode cX6_applied 55 = .ok (.lreturn, 1) := by decide +kernel
theorem dX6_applied_56 : decode cX6_applied 56 = .ok (.lload_n 3, 1) := by decide +kernel
theorem dX6_applied_57 : decode cX6_applied 57 = .ok (.invokestatic 478, 3) := by decide +kernel
theorem dX6_applied_60 : decode cX6_applied 60 = .ok (.lload_n 1, 1) := by decide +kernel
theorem dX6_applied_61 : decode cX6_applied 61 = .ok (.lload_n 3, 1) := by decide +kernel
theorem dX6_applied_62 : decode cX6_applied 62 = .ok (.ldiv, 1) := by decide +kernel
theorem dX6_applied_63 : decode cX6_applied 63 = .ok (.lreturn, 1) := by decide +kernel
theorem dX6_applied_64 : decode cX6_applied 64 = .ok (.lload_n 1, 1) := by decide +kernel
theorem dX6_applied_65 : decode cX6_applied 65 = .ok (.invokestatic 478, 3) := by decide +kernel
theorem dX6_applied_68 : decode cX6_applied 68 = .ok (.lload_n 3, 1) := by decide +kernel
theorem dX6_applied_69 : decode cX6_applied 69 = .ok (.lload_n 1, 1) := by decide +kernel
theorem dX6_applied_70 : decode cX6_applied 70 = .ok (.ldiv, 1) := by decide +kernel
theorem dX6_applied_71 : decode cX6_applied 71 = .ok (.lreturn, 1) := by decide +kernel
theorem dX6_applied_72 : decode cX6_applied 72 = .ok (.lload_n 3, 1) := by decide +kernel
theorem dX6_applied_73 : decode cX6_applied 73 = .ok (.invokestatic 478, 3) := by decide +kernel
theorem dX6_applied_76 : decode cX6_applied 76 = .ok (.lload_n 1, 1) := by decide +kernel
theorem dX6_applied_77 : decode cX6_applied 77 = .ok (.lload_n 3, 1) := by decide +kernel
theorem dX6_applied_78 : decode cX6_applied 78 = .ok (.lrem, 1) := by decide +kernel
theorem dX6_applied_79 : decode cX6_applied 79 = .ok (.lreturn, 1) := by decide +kernel
set_option maxRecDepth 100000 in
set_option maxHeartbeats 4000000 in
theorem c_X6_applied (l : Launch) (D : va_G) (cy : Nat → ClassId) (N0 : Nat) (h : qH) (w : Nat) (x0 c0 : Int64) (hw : w ≤ 6) : qC l D cy N0 yX6_applied cX6_applied 5 (some .long) 7 103 1 6 [.int (nI w), .long x0, .long c0] h (fun v h' => ∃ r, xFn w c0 x0 = some r ∧ v = some (.long r) ∧ h = h') (fun E h' => E = "java/lang/ArithmeticException" ∧ h = h' ∧ xFn w c0 x0 = none) := by
  refine q_ofW (by decide) (by exact Nat.le_of_ble_eq_true rfl) ?_
  intro p e s m below meth c ls C hP hl
  have hx := C.1
  have hb := C.2.1
  have hS : va_S (qA N0) s.heap s.heap [] := va_S.rf
  have hl : lv_has ls 5 [(0, .int (nI w)), (1, .long x0), (3, .long c0)] := hl
  have hle : qle h h := qle_rf
  rcases (show w = 0 ∨ w = 1 ∨ w = 2 ∨ w = 3 ∨ w = 4 ∨ w = 5 ∨ w = 6 by omega) with rfl | rfl | rfl | rfl | rfl | rfl | rfl
  · refine lv_iload_n hx hb dX6_applied_0 rfl (lv_at hl 0 rfl) ?_
    refine lv_tableIn (tgt := 40) (off := 39) hx hb dX6_applied_1 (by decide +kernel) (by decide +kernel) (by decide +kernel) (by decide) ?_
    refine lv_lload_n hx hb dX6_applied_40 rfl (lv_at hl 1 rfl) ?_
    refine lv_lload_n hx hb dX6_applied_41 rfl (lv_at hl 2 rfl) ?_
    refine lv_ladd hx hb dX6_applied_42 ?_
    exact q_lret C hP hS ⟨(x0 + c0), by simp [xFn], rfl, rfl⟩ (by omega) dX6_applied_43
  · refine lv_iload_n hx hb dX6_applied_0 rfl (lv_at hl 0 rfl) ?_
    refine lv_tableIn (tgt := 44) (off := 43) hx hb dX6_applied_1 (by decide +kernel) (by decide +kernel) (by decide +kernel) (by decide) ?_
    refine lv_lload_n hx hb dX6_applied_44 rfl (lv_at hl 1 rfl) ?_
    refine lv_lload_n hx hb dX6_applied_45 rfl (lv_at hl 2 rfl) ?_
    refine lv_lmul hx hb dX6_applied_46 ?_
    exact q_lret C hP hS ⟨(x0 * c0), by simp [xFn], rfl, rfl⟩ (by omega) dX6_applied_47
  · refine lv_iload_n hx hb dX6_applied_0 rfl (lv_at hl 0 rfl) ?_
    refine lv_tableIn (tgt := 48) (off := 47) hx hb dX6_applied_1 (by decide +kernel) (by decide +kernel) (by decide +kernel) (by decide) ?_
    refine lv_lload_n hx hb dX6_applied_48 rfl (lv_at hl 1 rfl) ?_
    refine lv_lload_n hx hb dX6_applied_49 rfl (lv_at hl 2 rfl) ?_
    refine lv_land hx hb dX6_applied_50 ?_
    exact q_lret C hP hS ⟨(x0 &&& c0), by simp [xFn], rfl, rfl⟩ (by omega) dX6_applied_51
  · refine lv_iload_n hx hb dX6_applied_0 rfl (lv_at hl 0 rfl) ?_
    refine lv_tableIn (tgt := 52) (off := 51) hx hb dX6_applied_1 (by decide +kernel) (by decide +kernel) (by decide +kernel) (by decide) ?_
    refine lv_lload_n hx hb dX6_applied_52 rfl (lv_at hl 1 rfl) ?_
    refine lv_lload_n hx hb dX6_applied_53 rfl (lv_at hl 2 rfl) ?_
    refine lv_lxor hx hb dX6_applied_54 ?_
    exact q_lret C hP hS ⟨(x0 ^^^ c0), by simp [xFn], rfl, rfl⟩ (by omega) dX6_applied_55
  · refine lv_iload_n hx hb dX6_applied_0 rfl (lv_at hl 0 rfl) ?_
    refine lv_tableIn (tgt := 56) (off := 55) hx hb dX6_applied_1 (by decide +kernel) (by decide +kernel) (by decide +kernel) (by decide) ?_
    refine lv_lload_n hx hb dX6_applied_56 rfl (lv_at hl 2 rfl) ?_
    refine q_callS (rest := []) C (c_X6_needDivisor l D cy N0 h c0) kX6_needDivisor g653 g654 hP hS (by first | decide | omega) hl.1 rfl (by decide) (by first | decide | omega) dX6_applied_57 (fun q ce E h' H1 locs1 hE hP hS hc1 hc2 hc3 => by obtain ⟨rfl, rfl, hz9⟩ := hE; exact q_out C hP hS hc1 hc2 hc3 ⟨rfl, rfl, by simp [xFn, hz9]⟩ (by omega)) (fun v hh1 H locs hq hP hS => ?_)
    obtain ⟨rfl, rfl, hz9⟩ := hq
    refine lv_lload_n hx hb dX6_applied_60 rfl (lv_at hl 1 rfl) ?_
    refine lv_lload_n hx hb dX6_applied_61 rfl (lv_at hl 2 rfl) ?_
    refine lv_ldiv hx hb dX6_applied_62 hz9 ?_
    exact q_lret C hP hS ⟨(x0 / c0), by simp [xFn, hz9], rfl, rfl⟩ (by omega) dX6_applied_63
  · refine lv_iload_n hx hb dX6_applied_0 rfl (lv_at hl 0 rfl) ?_
    refine lv_tableIn (tgt := 64) (off := 63) hx hb dX6_applied_1 (by decide +kernel) (by decide +kernel) (by decide +kernel) (by decide) ?_
    refine lv_lload_n hx hb dX6_applied_64 rfl (lv_at hl 1 rfl) ?_
    refine q_callS (rest := []) C (c_X6_needDivisor l D cy N0 h x0) kX6_needDivisor g653 g654 hP hS (by first | decide | omega) hl.1 rfl (by decide) (by first | decide | omega) dX6_applied_65 (fun q ce E h' H1 locs1 hE hP hS hc1 hc2 hc3 => by obtain ⟨rfl, rfl, hz9⟩ := hE; exact q_out C hP hS hc1 hc2 hc3 ⟨rfl, rfl, by simp [xFn, hz9]⟩ (by omega)) (fun v hh2 H locs hq hP hS => ?_)
    obtain ⟨rfl, rfl, hz9⟩ := hq
    refine lv_lload_n hx hb dX6_applied_68 rfl (lv_at hl 2 rfl) ?_
    refine lv_lload_n hx hb dX6_applied_69 rfl (lv_at hl 1 rfl) ?_
    refine lv_ldiv hx hb dX6_applied_70 hz9 ?_
    exact q_lret C hP hS ⟨(c0 / x0), by simp [xFn, hz9], rfl, rfl⟩ (by omega) dX6_applied_71
  · refine lv_iload_n hx hb dX6_applied_0 rfl (lv_at hl 0 rfl) ?_
    refine lv_tableOut (tgt := 72) hx hb dX6_applied_1 (by decide +kernel) (by decide) ?_
    refine lv_lload_n hx hb dX6_applied_72 rfl (lv_at hl 2 rfl) ?_
    refine q_callS (rest := []) C (c_X6_needDivisor l D cy N0 h c0) kX6_needDivisor g653 g654 hP hS (by first | decide | omega) hl.1 rfl (by decide) (by first | decide | omega) dX6_applied_73 (fun q ce E h' H1 locs1 hE hP hS hc1 hc2 hc3 => by obtain ⟨rfl, rfl, hz9⟩ := hE; exact q_out C hP hS hc1 hc2 hc3 ⟨rfl, rfl, by simp [xFn, hz9]⟩ (by omega)) (fun v hh3 H locs hq hP hS => ?_)
    obtain ⟨rfl, rfl, hz9⟩ := hq
    refine lv_lload_n hx hb dX6_applied_76 rfl (lv_at hl 1 rfl) ?_
    refine lv_lload_n hx hb dX6_applied_77 rfl (lv_at hl 2 rfl) ?_
    refine lv_lrem hx hb dX6_applied_78 hz9 ?_
    exact q_lret C hP hS ⟨(x0 - x0 / c0 * c0), by simp [xFn, hz9], rfl, rfl⟩ (by omega) dX6_applied_79

theorem dX6_passes_0 : decode cX6_passes 0 = .ok (.iload_n 0, 1) := by decide +kernel
theorem dX6_passes_1 : decode cX6_passes 1 = .ok (.tableswitch 87 0 3 #[31, 43, 57, 69], 31) := by decide +kernel
theorem dX6_passes_32 : decode cX6_passes 32 = .ok (.lload_n 1, 1) := by decide +kernel
theorem dX6_passes_33 : decode cX6_passes 33 = .ok (.lload_n 3, 1) := by decide +kernel
theorem dX6_passes_34 : decode cX6_passes 34 = .ok (.lcmp, 1) := by decide +kernel
theorem dX6_passes_35 : decode cX6_passes 35 = .ok (.ifCond .ge 7, 3) := by decide +kernel
theorem dX6_passes_38 : decode cX6_passes 38 = .ok (.iconst 1, 1) := by decide +kernel
theorem dX6_passes_39 : decode cX6_passes 39 = .ok (.goto 4, 3) := by decide +kernel
theorem dX6_passes_42 : decode cX6_passes 42 = .ok (.iconst 0, 1) := by decide +kernel
theorem dX6_passes_43 : decode cX6_passes 43 = .ok (.ireturn, 1) := by decide +kernel
theorem dX6_passes_44 : decode cX6_passes 44 = .ok (.lload_n 1, 1) := by decide +kernel
theorem dX6_passes_45 : decode cX6_passes 45 = .ok (.lload_n 3, 1) := by decide +kernel
theorem dX6_passes_46 : decode cX6_passes 46 = .ok (.land, 1) := by decide +kernel
theorem dX6_passes_47 : decode cX6_passes 47 = .ok (.lconst 0, 1) := by decide +kernel
theorem dX6_passes_48 : decode cX6_passes 48 = .ok (.lcmp, 1) := by decide +kernel
theorem dX6_passes_49 : decode cX6_passes 49 = .ok (.ifCond .eq 7, 3) := by decide +kernel
theorem dX6_passes_52 : decode cX6_passes 52 = .ok (.iconst 1, 1) := by decide +kernel
theorem dX6_passes_53 : decode cX6_passes 53 = .ok (.goto 4, 3) := by decide +kernel
theorem dX6_passes_56 : decode cX6_passes 56 = .ok (.iconst 0, 1) := by decide +kernel
theorem dX6_passes_57 : decode cX6_passes 57 = .ok (.ireturn, 1) := by decide +kernel
theorem dX6_passes_58 : decode cX6_passes 58 = .ok (.lload_n 1, 1) := by decide +kernel
theorem dX6_passes_59 : decode cX6_passes 59 = .ok (.lload_n 3, 1) := by decide +kernel
theorem dX6_passes_60 : decode cX6_passes 60 = .ok (.lcmp, 1) := by decide +kernel
theorem dX6_passes_61 : decode cX6_passes 61 = .ok (.ifCond .ne 7, 3) := by decide +kernel
theorem dX6_passes_64 : decode cX6_passes 64 = .ok (.iconst 1, 1) := by decide +kernel
theorem dX6_passes_65 : decode cX6_passes 65 = .ok (.goto 4, 3) := by decide +kernel
theorem dX6_passes_68 : decode cX6_passes 68 = .ok (.iconst 0, 1) := by decide +kernel
theorem dX6_passes_69 : decode cX6_passes 69 = .ok (.ireturn, 1) := by decide +kernel
theorem dX6_passes_70 : decode cX6_passes 70 = .ok (.lload_n 3, 1) := by decide +kernel
theorem dX6_passes_71 : decode cX6_passes 71 = .ok (.invokestatic 478, 3) := by decide +kernel
theorem dX6_passes_74 : decode cX6_passes 74 = .ok (.lload_n 1, 1) := by decide +kernel
theorem dX6_passes_75 : decode cX6_passes 75 = .ok (.lload_n 3, 1) := by decide +kernel
theorem dX6_passes_76 : decode cX6_passes 76 = .ok (.lrem, 1) := by decide +kernel
theorem dX6_passes_77 : decode cX6_passes 77 = .ok (.lconst 0, 1) := by decide +kernel
theorem dX6_passes_78 : decode cX6_passes 78 = .ok (.lcmp, 1) := by decide +kernel
theorem dX6_passes_79 : decode cX6_passes 79 = .ok (.ifCond .ne 7, 3) := by decide +kernel
theorem dX6_passes_82 : decode cX6_passes 82 = .ok (.iconst 1, 1) := by decide +kernel
theorem dX6_passes_83 : decode cX6_passes 83 = .ok (.goto 4, 3) := by decide +kernel
theorem dX6_passes_86 : decode cX6_passes 86 = .ok (.iconst 0, 1) := by decide +kernel
theorem dX6_passes_87 : decode cX6_passes 87 = .ok (.ireturn, 1) := by decide +kernel
theorem dX6_passes_88 : decode cX6_passes 88 = .ok (.iconst 1, 1) := by decide +kernel
theorem dX6_passes_89 : decode cX6_passes 89 = .ok (.ireturn, 1) := by decide +kernel
set_option maxRecDepth 100000 in
set_option maxHeartbeats 4000000 in
theorem c_X6_passes (l : Launch) (D : va_G) (cy : Nat → ClassId) (N0 : Nat) (h : qH) (w : Nat) (x0 c0 : Int64) (hw : w ≤ 4) : qC l D cy N0 yX6_passes cX6_passes 5 (some .boolean) 7 103 1 6 [.int (nI w), .long x0, .long c0] h (fun v h' => ∃ r, xTs w c0 x0 = some r ∧ v = some (.int (nI (if r = true then 1 else 0))) ∧ h = h') (fun E h' => E = "java/lang/ArithmeticException" ∧ h = h' ∧ xTs w c0 x0 = none) := by
  refine q_ofW (by decide) (by exact Nat.le_of_ble_eq_true rfl) ?_
  intro p e s m below meth c ls C hP hl
  have hx := C.1
  have hb := C.2.1
  have hS : va_S (qA N0) s.heap s.heap [] := va_S.rf
  have hl : lv_has ls 5 [(0, .int (nI w)), (1, .long x0), (3, .long c0)] := hl
  have hle : qle h h := qle_rf
  rcases (show w = 0 ∨ w = 1 ∨ w = 2 ∨ w = 3 ∨ w = 4 by omega) with rfl | rfl | rfl | rfl | rfl
  · refine lv_iload_n hx hb dX6_passes_0 rfl (lv_at hl 0 rfl) ?_
    refine lv_tableIn (tgt := 32) (off := 31) hx hb dX6_passes_1 (by decide +kernel) (by decide +kernel) (by decide +kernel) (by decide) ?_
    refine lv_lload_n hx hb dX6_passes_32 rfl (lv_at hl 1 rfl) ?_
    refine lv_lload_n hx hb dX6_passes_33 rfl (lv_at hl 2 rfl) ?_
    refine W.lcmp hx hb dX6_passes_34 ?_
    refine lv_if_ge (tgt := 42) hx hb dX6_passes_35 (by decide) (fun c35 => ?_) (fun c35 => ?_)
    · replace c35 : c0.toInt ≤ x0.toInt := Int64.le_iff_toInt_le.mp ((lg_cmp_ge _ _).mp c35)
      refine lv_iconst (v := nI 0) hx hb dX6_passes_42 (by decide) ?_
      exact q_zret C hP hS (Or.inl rfl) ⟨false, by unfold xTs; rw [if_pos rfl, decide_eq_false (by omega)], rfl, rfl⟩ (by omega) dX6_passes_43
    · replace c35 : ¬ c0.toInt ≤ x0.toInt := fun zq => c35 ((lg_cmp_ge _ _).mpr (Int64.le_iff_toInt_le.mpr zq))
      refine lv_iconst (v := nI 1) hx hb dX6_passes_38 (by decide) ?_
      refine lv_goto (tgt := 43) hx hb dX6_passes_39 (by decide) ?_
      exact q_zret C hP hS (Or.inr rfl) ⟨true, by unfold xTs; rw [if_pos rfl, decide_eq_true (by omega)], rfl, rfl⟩ (by omega) dX6_passes_43
  · refine lv_iload_n hx hb dX6_passes_0 rfl (lv_at hl 0 rfl) ?_
    refine lv_tableIn (tgt := 44) (off := 43) hx hb dX6_passes_1 (by decide +kernel) (by decide +kernel) (by decide +kernel) (by decide) ?_
    refine lv_lload_n hx hb dX6_passes_44 rfl (lv_at hl 1 rfl) ?_
    refine lv_lload_n hx hb dX6_passes_45 rfl (lv_at hl 2 rfl) ?_
    refine lv_land hx hb dX6_passes_46 ?_
    refine lv_lconst (v := 0) hx hb dX6_passes_47 (by decide) ?_
    refine W.lcmp hx hb dX6_passes_48 ?_
    refine lv_if_eq (tgt := 56) hx hb dX6_passes_49 (by decide) (fun c49 => ?_) (fun c49 => ?_)
    · replace c49 : (x0 &&& c0).toInt = (0 : Int64).toInt := Int64.toInt_inj.symm.mp ((lg_cmp_eq _ _).mp c49)
      refine lv_iconst (v := nI 0) hx hb dX6_passes_56 (by decide) ?_
      exact q_zret C hP hS (Or.inl rfl) ⟨false, by unfold xTs; rw [if_neg (by decide), if_pos rfl, decide_eq_false (fun z => z (Int64.toInt_inj.mp c49))], rfl, rfl⟩ (by omega) dX6_passes_57
    · replace c49 : ¬ (x0 &&& c0).toInt = (0 : Int64).toInt := fun zq => c49 ((lg_cmp_eq _ _).mpr (Int64.toInt_inj.symm.mpr zq))
      refine lv_iconst (v := nI 1) hx hb dX6_passes_52 (by decide) ?_
      refine lv_goto (tgt := 57) hx hb dX6_passes_53 (by decide) ?_
      exact q_zret C hP hS (Or.inr rfl) ⟨true, by unfold xTs; rw [if_neg (by decide), if_pos rfl, decide_eq_true (show ¬ (x0 &&& c0) = 0 from fun z => c49 (by rw [z]))], rfl, rfl⟩ (by omega) dX6_passes_57
  · refine lv_iload_n hx hb dX6_passes_0 rfl (lv_at hl 0 rfl) ?_
    refine lv_tableIn (tgt := 58) (off := 57) hx hb dX6_passes_1 (by decide +kernel) (by decide +kernel) (by decide +kernel) (by decide) ?_
    refine lv_lload_n hx hb dX6_passes_58 rfl (lv_at hl 1 rfl) ?_
    refine lv_lload_n hx hb dX6_passes_59 rfl (lv_at hl 2 rfl) ?_
    refine W.lcmp hx hb dX6_passes_60 ?_
    refine lv_if_ne (tgt := 68) hx hb dX6_passes_61 (by decide) (fun c61 => ?_) (fun c61 => ?_)
    · replace c61 : ¬ x0.toInt = c0.toInt := fun zq => c61 ((lg_cmp_eq _ _).mpr (Int64.toInt_inj.symm.mpr zq))
      refine lv_iconst (v := nI 0) hx hb dX6_passes_68 (by decide) ?_
      exact q_zret C hP hS (Or.inl rfl) ⟨false, by unfold xTs; rw [if_neg (by decide), if_neg (by decide), if_pos rfl, decide_eq_false (fun z => c61 (by rw [z]))], rfl, rfl⟩ (by omega) dX6_passes_69
    · replace c61 : x0.toInt = c0.toInt := Int64.toInt_inj.symm.mp ((lg_cmp_eq _ _).mp c61)
      refine lv_iconst (v := nI 1) hx hb dX6_passes_64 (by decide) ?_
      refine lv_goto (tgt := 69) hx hb dX6_passes_65 (by decide) ?_
      exact q_zret C hP hS (Or.inr rfl) ⟨true, by unfold xTs; rw [if_neg (by decide), if_neg (by decide), if_pos rfl, decide_eq_true (Int64.toInt_inj.mp c61)], rfl, rfl⟩ (by omega) dX6_passes_69
  · refine lv_iload_n hx hb dX6_passes_0 rfl (lv_at hl 0 rfl) ?_
    refine lv_tableIn (tgt := 70) (off := 69) hx hb dX6_passes_1 (by decide +kernel) (by decide +kernel) (by decide +kernel) (by decide) ?_
    refine lv_lload_n hx hb dX6_passes_70 rfl (lv_at hl 2 rfl) ?_
    refine q_callS (rest := []) C (c_X6_needDivisor l D cy N0 h c0) kX6_needDivisor g653 g654 hP hS (by first | decide | omega) hl.1 rfl (by decide) (by first | decide | omega) dX6_passes_71 (fun q ce E h' H1 locs1 hE hP hS hc1 hc2 hc3 => by obtain ⟨rfl, rfl, hz9⟩ := hE; exact q_out C hP hS hc1 hc2 hc3 ⟨rfl, rfl, by simp [xTs, hz9]⟩ (by omega)) (fun v hh1 H locs hq hP hS => ?_)
    obtain ⟨rfl, rfl, hz9⟩ := hq
    refine lv_lload_n hx hb dX6_passes_74 rfl (lv_at hl 1 rfl) ?_
    refine lv_lload_n hx hb dX6_passes_75 rfl (lv_at hl 2 rfl) ?_
    refine lv_lrem hx hb dX6_passes_76 hz9 ?_
    refine lv_lconst (v := 0) hx hb dX6_passes_77 (by decide) ?_
    refine W.lcmp hx hb dX6_passes_78 ?_
    refine lv_if_ne (tgt := 86) hx hb dX6_passes_79 (by decide) (fun c79 => ?_) (fun c79 => ?_)
    · replace c79 : ¬ (x0 - x0 / c0 * c0).toInt = (0 : Int64).toInt := fun zq => c79 ((lg_cmp_eq _ _).mpr (Int64.toInt_inj.symm.mpr zq))
      refine lv_iconst (v := nI 0) hx hb dX6_passes_86 (by decide) ?_
      exact q_zret C hP hS (Or.inl rfl) ⟨false, by unfold xTs; rw [if_neg (by decide), if_neg (by decide), if_neg (by decide), if_pos rfl, if_neg hz9, decide_eq_false (fun z => c79 (by rw [z]))], rfl, rfl⟩ (by omega) dX6_passes_87
    · replace c79 : (x0 - x0 / c0 * c0).toInt = (0 : Int64).toInt := Int64.toInt_inj.symm.mp ((lg_cmp_eq _ _).mp c79)
      refine lv_iconst (v := nI 1) hx hb dX6_passes_82 (by decide) ?_
      refine lv_goto (tgt := 87) hx hb dX6_passes_83 (by decide) ?_
      exact q_zret C hP hS (Or.inr rfl) ⟨true, by unfold xTs; rw [if_neg (by decide), if_neg (by decide), if_neg (by decide), if_pos rfl, if_neg hz9, decide_eq_true (Int64.toInt_inj.mp c79)], rfl, rfl⟩ (by omega) dX6_passes_87
  · refine lv_iload_n hx hb dX6_passes_0 rfl (lv_at hl 0 rfl) ?_
    refine lv_tableOut (tgt := 88) hx hb dX6_passes_1 (by decide +kernel) (by decide) ?_
    refine lv_iconst (v := nI 1) hx hb dX6_passes_88 (by decide) ?_
    exact q_zret C hP hS (Or.inr rfl) ⟨true, by simp [xTs], rfl, rfl⟩ (by omega) dX6_passes_89

theorem dX8_function_0 : decode cX8_function 0 = .ok (.iload_n 1, 1) := by decide +kernel
theorem dX8_function_1 : decode cX8_function 1 = .ok (.iconst 3, 1) := by decide +kernel
theorem dX8_function_2 : decode cX8_function 2 = .ok (.if_icmp .le 26, 3) := by decide +kernel
theorem dX8_function_5 : decode cX8_function 5 = .ok (.iload_n 1, 1) := by decide +kernel
theorem dX8_function_6 : decode cX8_function 6 = .ok (.iconst 5, 1) := by decide +kernel
theorem dX8_function_7 : decode cX8_function 7 = .ok (.if_icmp .ne 8, 3) := by decide +kernel
theorem dX8_function_10 : decode cX8_function 10 = .ok (.lload 4, 2) := by decide +kernel
theorem dX8_function_12 : decode cX8_function 12 = .ok (.goto 4, 3) := by decide +kernel
theorem dX8_function_15 : decode cX8_function 15 = .ok (.lload_n 2, 1) := by decide +kernel
theorem dX8_function_16 : decode cX8_function 16 = .ok (.lconst 0, 1) := by decide +kernel
theorem dX8_function_17 : decode cX8_function 17 = .ok (.lcmp, 1) := by decide +kernel
theorem dX8_function_18 : decode cX8_function 18 = .ok (.ifCond .ne 10, 3) := by decide +kernel
theorem dX8_function_21 : decode cX8_function 21 = .ok (.aload_n 0, 1) := by decide +kernel
theorem dX8_function_22 : decode cX8_function 22 = .ok (.iconst 1, 1) := by decide +kernel
theorem dX8_function_23 : decode cX8_function 23 = .ok (.putfield 155, 3) := by decide +kernel
theorem dX8_function_26 : decode cX8_function 26 = .ok (.lconst 0, 1) := by decide +kernel
theorem dX8_function_27 : decode cX8_function 27 = .ok (.lreturn, 1) := by decide +kernel
theorem dX8_function_28 : decode cX8_function 28 = .ok (.iload_n 1, 1) := by decide +kernel
theorem dX8_function_29 : decode cX8_function 29 = .ok (.tableswitch 69 0 5 #[39, 44, 49, 54, 59, 64], 39) := by decide +kernel
theorem dX8_function_68 : decode cX8_function 68 = .ok (.lload 4, 2) := by decide +kernel
theorem dX8_function_70 : decode cX8_function 70 = .ok (.lload_n 2, 1) := by decide +kernel
theorem dX8_function_71 : decode cX8_function 71 = .ok (.ladd, 1) := by decide +kernel
theorem dX8_function_72 : decode cX8_function 72 = .ok (.lreturn, 1) := by decide +kernel
theorem dX8_function_73 : decode cX8_function 73 = .ok (.lload 4, 2) := by decide +kernel
theorem dX8_function_75 : decode cX8_function 75 = .ok (.lload_n 2, 1) := by decide +kernel
theorem dX8_function_76 : decode cX8_function 76 = .ok (.lmul, 1) := by decide +kernel
theorem dX8_function_77 : decode cX8_function 77 = .ok (.lreturn, 1) := by decide +kernel
theorem dX8_function_78 : decode cX8_function 78 = .ok (.lload 4, 2) := by decide +kernel
theorem dX8_function_80 : decode cX8_function 80 = .ok (.lload_n 2, 1) := by decide +kernel
theorem dX8_function_81 : decode cX8_function 81 = .ok (.land, 1) := by decide +kernel
theorem dX8_function_82 : decode cX8_function 82 = .ok (.lreturn, 1) := by decide +kernel
theorem dX8_function_83 : decode cX8_function 83 = .ok (.lload 4, 2) := by decide +kernel
theorem dX8_function_85 : decode cX8_function 85 = .ok (.lload_n 2, 1) := by decide +kernel
theorem dX8_function_86 : decode cX8_function 86 = .ok (.lxor, 1) := by decide +kernel
theorem dX8_function_87 : decode cX8_function 87 = .ok (.lreturn, 1) := by decide +kernel
theorem dX8_function_88 : decode cX8_function 88 = .ok (.lload 4, 2) := by decide +kernel
theorem dX8_function_90 : decode cX8_function 90 = .ok (.lload_n 2, 1) := by decide +kernel
theorem dX8_function_91 : decode cX8_function 91 = .ok (.ldiv, 1) := by decide +kernel
theorem dX8_function_92 : decode cX8_function 92 = .ok (.lreturn, 1) := by decide +kernel
theorem dX8_function_93 : decode cX8_function 93 = .ok (.lload_n 2, 1) := by decide +kernel
theorem dX8_function_94 : decode cX8_function 94 = .ok (.lload 4, 2) := by decide +kernel
theorem dX8_function_96 : decode cX8_function 96 = .ok (.ldiv, 1) := by decide +kernel
theorem dX8_function_97 : decode cX8_function 97 = .ok (.lreturn, 1) := by decide +kernel
theorem dX8_function_98 : decode cX8_function 98 = .ok (.lload 4, 2) := by decide +kernel
theorem dX8_function_100 : decode cX8_function 100 = .ok (.lload_n 2, 1) := by decide +kernel
theorem dX8_function_101 : decode cX8_function 101 = .ok (.lrem, 1) := by decide +kernel
theorem dX8_function_102 : decode cX8_function 102 = .ok (.lreturn, 1) := by decide +kernel
set_option maxRecDepth 100000 in
set_option maxHeartbeats 4000000 in
theorem c_X8_function (l : Launch) (D : va_G) (cy : Nat → ClassId) (N0 : Nat) (h : qH) (y ms mb mw od pt fi re rc rs so ot cn la ro : Nat) (gr cd ca mv ct fau cs ce rn : Int32) (w : Nat) (x0 c0 : Int64) (hY : h y = some (.inr (8, [.ref ms, .ref mb, .ref mw, .int gr, .int cd, .int ca, .int mv, .ref od, .ref pt, .int ct, .int fau, .ref fi, .ref re, .int cs, .ref rc, .ref rs, .ref so, .ref ot, .ref cn, .ref la, .int ce, .ref ro, .int rn]))) (hw : w ≤ 6) : qC l D cy N0 yX8_function cX8_function 6 (some .long) 0 0 0 0 [.ref y, .int (nI w), .long c0, .long x0] h (fun v h' => (∃ r, xFn w c0 x0 = some r ∧ v = some (.long r) ∧ h = h') ∨ (xFn w c0 x0 = none ∧ v = some (.long 0) ∧ h' = qs h y (.inr (8, [.ref ms, .ref mb, .ref mw, .int gr, .int cd, .int ca, .int mv, .ref od, .ref pt, .int ct, .int 1, .ref fi, .ref re, .int cs, .ref rc, .ref rs, .ref so, .ref ot, .ref cn, .ref la, .int ce, .ref ro, .int rn])))) (fun E h' => False) := by
  refine q_ofW (by decide) (by exact Nat.le_of_ble_eq_true rfl) ?_
  intro p e s m below meth c ls C hP hl
  have hx := C.1
  have hb := C.2.1
  have hS : va_S (qA N0) s.heap s.heap [] := va_S.rf
  have hl : lv_has ls 6 [(0, .ref y), (1, .int (nI w)), (2, .long c0), (4, .long x0)] := hl
  have hle : qle h h := qle_rf
  rcases (show w = 0 ∨ w = 1 ∨ w = 2 ∨ w = 3 ∨ w = 4 ∨ w = 5 ∨ w = 6 by omega) with rfl | rfl | rfl | rfl | rfl | rfl | rfl
  · refine lv_iload_n hx hb dX8_function_0 rfl (lv_at hl 1 rfl) ?_
    refine lv_iconst (v := nI 3) hx hb dX8_function_1 (by decide) ?_
    refine lv_icmp_le (tgt := 28) hx hb dX8_function_2 (by decide) (fun c2 => ?_) (fun c2 => ?_)
    · replace c2 : 0 ≤ 3 := (nI_leI (a := 0) (b := 3) (by omega) (by omega)).mp c2
      refine lv_iload_n hx hb dX8_function_28 rfl (lv_at hl 1 rfl) ?_
      refine lv_tableIn (tgt := 68) (off := 39) hx hb dX8_function_29 (by decide +kernel) (by decide +kernel) (by decide +kernel) (by decide) ?_
      refine lv_lload hx hb dX8_function_68 (lv_at hl 3 rfl) ?_
      refine lv_lload_n hx hb dX8_function_70 rfl (lv_at hl 2 rfl) ?_
      refine lv_ladd hx hb dX8_function_71 ?_
      exact q_lret C hP hS (Or.inl ⟨(x0 + c0), by simp [xFn], rfl, rfl⟩) (by omega) dX8_function_72
    · replace c2 : ¬ 0 ≤ 3 := fun zq => c2 ((nI_leI (a := 0) (b := 3) (by omega) (by omega)).mpr zq)
      exfalso; omega
  · refine lv_iload_n hx hb dX8_function_0 rfl (lv_at hl 1 rfl) ?_
    refine lv_iconst (v := nI 3) hx hb dX8_function_1 (by decide) ?_
    refine lv_icmp_le (tgt := 28) hx hb dX8_function_2 (by decide) (fun c2 => ?_) (fun c2 => ?_)
    · replace c2 : 1 ≤ 3 := (nI_leI (a := 1) (b := 3) (by omega) (by omega)).mp c2
      refine lv_iload_n hx hb dX8_function_28 rfl (lv_at hl 1 rfl) ?_
      refine lv_tableIn (tgt := 73) (off := 44) hx hb dX8_function_29 (by decide +kernel) (by decide +kernel) (by decide +kernel) (by decide) ?_
      refine lv_lload hx hb dX8_function_73 (lv_at hl 3 rfl) ?_
      refine lv_lload_n hx hb dX8_function_75 rfl (lv_at hl 2 rfl) ?_
      refine lv_lmul hx hb dX8_function_76 ?_
      exact q_lret C hP hS (Or.inl ⟨(x0 * c0), by simp [xFn], rfl, rfl⟩) (by omega) dX8_function_77
    · replace c2 : ¬ 1 ≤ 3 := fun zq => c2 ((nI_leI (a := 1) (b := 3) (by omega) (by omega)).mpr zq)
      exfalso; omega
  · refine lv_iload_n hx hb dX8_function_0 rfl (lv_at hl 1 rfl) ?_
    refine lv_iconst (v := nI 3) hx hb dX8_function_1 (by decide) ?_
    refine lv_icmp_le (tgt := 28) hx hb dX8_function_2 (by decide) (fun c2 => ?_) (fun c2 => ?_)
    · replace c2 : 2 ≤ 3 := (nI_leI (a := 2) (b := 3) (by omega) (by omega)).mp c2
      refine lv_iload_n hx hb dX8_function_28 rfl (lv_at hl 1 rfl) ?_
      refine lv_tableIn (tgt := 78) (off := 49) hx hb dX8_function_29 (by decide +kernel) (by decide +kernel) (by decide +kernel) (by decide) ?_
      refine lv_lload hx hb dX8_function_78 (lv_at hl 3 rfl) ?_
      refine lv_lload_n hx hb dX8_function_80 rfl (lv_at hl 2 rfl) ?_
      refine lv_land hx hb dX8_function_81 ?_
      exact q_lret C hP hS (Or.inl ⟨(x0 &&& c0), by simp [xFn], rfl, rfl⟩) (by omega) dX8_function_82
    · replace c2 : ¬ 2 ≤ 3 := fun zq => c2 ((nI_leI (a := 2) (b := 3) (by omega) (by omega)).mpr zq)
      exfalso; omega
  · refine lv_iload_n hx hb dX8_function_0 rfl (lv_at hl 1 rfl) ?_
    refine lv_iconst (v := nI 3) hx hb dX8_function_1 (by decide) ?_
    refine lv_icmp_le (tgt := 28) hx hb dX8_function_2 (by decide) (fun c2 => ?_) (fun c2 => ?_)
    · replace c2 : 3 ≤ 3 := (nI_leI (a := 3) (b := 3) (by omega) (by omega)).mp c2
      refine lv_iload_n hx hb dX8_function_28 rfl (lv_at hl 1 rfl) ?_
      refine lv_tableIn (tgt := 83) (off := 54) hx hb dX8_function_29 (by decide +kernel) (by decide +kernel) (by decide +kernel) (by decide) ?_
      refine lv_lload hx hb dX8_function_83 (lv_at hl 3 rfl) ?_
      refine lv_lload_n hx hb dX8_function_85 rfl (lv_at hl 2 rfl) ?_
      refine lv_lxor hx hb dX8_function_86 ?_
      exact q_lret C hP hS (Or.inl ⟨(x0 ^^^ c0), by simp [xFn], rfl, rfl⟩) (by omega) dX8_function_87
    · replace c2 : ¬ 3 ≤ 3 := fun zq => c2 ((nI_leI (a := 3) (b := 3) (by omega) (by omega)).mpr zq)
      exfalso; omega
  · refine lv_iload_n hx hb dX8_function_0 rfl (lv_at hl 1 rfl) ?_
    refine lv_iconst (v := nI 3) hx hb dX8_function_1 (by decide) ?_
    refine lv_icmp_le (tgt := 28) hx hb dX8_function_2 (by decide) (fun c2 => ?_) (fun c2 => ?_)
    · replace c2 : 4 ≤ 3 := (nI_leI (a := 4) (b := 3) (by omega) (by omega)).mp c2
      exfalso; omega
    · replace c2 : ¬ 4 ≤ 3 := fun zq => c2 ((nI_leI (a := 4) (b := 3) (by omega) (by omega)).mpr zq)
      refine lv_iload_n hx hb dX8_function_5 rfl (lv_at hl 1 rfl) ?_
      refine lv_iconst (v := nI 5) hx hb dX8_function_6 (by decide) ?_
      refine lv_icmp_ne (tgt := 15) hx hb dX8_function_7 (by decide) (fun c7 => ?_) (fun c7 => ?_)
      · replace c7 : ¬ 4 = 5 := fun zq => c7 ((nI_eq (a := 4) (b := 5) (by omega) (by omega)).mpr zq)
        refine lv_lload_n hx hb dX8_function_15 rfl (lv_at hl 2 rfl) ?_
        refine lv_lconst (v := 0) hx hb dX8_function_16 (by decide) ?_
        refine W.lcmp hx hb dX8_function_17 ?_
        refine lv_if_ne (tgt := 28) hx hb dX8_function_18 (by decide) (fun c18 => ?_) (fun c18 => ?_)
        · replace c18 : ¬ c0.toInt = (0 : Int64).toInt := fun zq => c18 ((lg_cmp_eq _ _).mpr (Int64.toInt_inj.symm.mpr zq))
          refine lv_iload_n hx hb dX8_function_28 rfl (lv_at hl 1 rfl) ?_
          refine lv_tableIn (tgt := 88) (off := 59) hx hb dX8_function_29 (by decide +kernel) (by decide +kernel) (by decide +kernel) (by decide) ?_
          refine lv_lload hx hb dX8_function_88 (lv_at hl 3 rfl) ?_
          refine lv_lload_n hx hb dX8_function_90 rfl (lv_at hl 2 rfl) ?_
          refine lv_ldiv hx hb dX8_function_91 (fun z => c18 (by rw [z])) ?_
          exact q_lret C hP hS (Or.inl ⟨(x0 / c0), by have z9 : ¬ c0 = 0 := fun z => c18 (by rw [z]); simp [xFn, z9], rfl, rfl⟩) (by omega) dX8_function_92
        · replace c18 : c0.toInt = (0 : Int64).toInt := Int64.toInt_inj.symm.mp ((lg_cmp_eq _ _).mp c18)
          refine lv_aload_n hx hb dX8_function_21 rfl (lv_at hl 0 rfl) ?_
          refine lv_iconst (v := 1) hx hb dX8_function_22 (by decide) ?_
          refine q_put C hP hS hY rfl inX8 tyX8 tyX8_ok nmX8 10 (by decide) g1177 rfl rfl rfl (Nat.le_of_ble_eq_true rfl) dX8_function_23 (fun H locs hP hS => ?_)
          replace hY : (qs h y (.inr (8, [.ref ms, .ref mb, .ref mw, .int gr, .int cd, .int ca, .int mv, .ref od, .ref pt, .int ct, .int 1, .ref fi, .ref re, .int cs, .ref rc, .ref rs, .ref so, .ref ot, .ref cn, .ref la, .int ce, .ref ro, .int rn]))) y = some (.inr (8, [.ref ms, .ref mb, .ref mw, .int gr, .int cd, .int ca, .int mv, .ref od, .ref pt, .int ct, .int 1, .ref fi, .ref re, .int cs, .ref rc, .ref rs, .ref so, .ref ot, .ref cn, .ref la, .int ce, .ref ro, .int rn])) := qs_self
          replace hP : qP D N0 (qs h y (.inr (8, [.ref ms, .ref mb, .ref mw, .int gr, .int cd, .int ca, .int mv, .ref od, .ref pt, .int ct, .int 1, .ref fi, .ref re, .int cs, .ref rc, .ref rs, .ref so, .ref ot, .ref cn, .ref la, .int ce, .ref ro, .int rn]))) H := hP
          refine lv_lconst (v := 0) hx hb dX8_function_26 (by decide) ?_
          exact q_lret C hP hS (Or.inr ⟨by have z9 := Int64.toInt_inj.mp c18; simp [xFn, z9], rfl, rfl⟩) (by omega) dX8_function_27
      · replace c7 : 4 = 5 := (nI_eq (a := 4) (b := 5) (by omega) (by omega)).mp c7
        exfalso; omega
  · refine lv_iload_n hx hb dX8_function_0 rfl (lv_at hl 1 rfl) ?_
    refine lv_iconst (v := nI 3) hx hb dX8_function_1 (by decide) ?_
    refine lv_icmp_le (tgt := 28) hx hb dX8_function_2 (by decide) (fun c2 => ?_) (fun c2 => ?_)
    · replace c2 : 5 ≤ 3 := (nI_leI (a := 5) (b := 3) (by omega) (by omega)).mp c2
      exfalso; omega
    · replace c2 : ¬ 5 ≤ 3 := fun zq => c2 ((nI_leI (a := 5) (b := 3) (by omega) (by omega)).mpr zq)
      refine lv_iload_n hx hb dX8_function_5 rfl (lv_at hl 1 rfl) ?_
      refine lv_iconst (v := nI 5) hx hb dX8_function_6 (by decide) ?_
      refine lv_icmp_ne (tgt := 15) hx hb dX8_function_7 (by decide) (fun c7 => ?_) (fun c7 => ?_)
      · replace c7 : ¬ 5 = 5 := fun zq => c7 ((nI_eq (a := 5) (b := 5) (by omega) (by omega)).mpr zq)
        exfalso; omega
      · replace c7 : 5 = 5 := (nI_eq (a := 5) (b := 5) (by omega) (by omega)).mp c7
        refine lv_lload hx hb dX8_function_10 (lv_at hl 3 rfl) ?_
        refine lv_goto (tgt := 16) hx hb dX8_function_12 (by decide) ?_
        refine lv_lconst (v := 0) hx hb dX8_function_16 (by decide) ?_
        refine W.lcmp hx hb dX8_function_17 ?_
        refine lv_if_ne (tgt := 28) hx hb dX8_function_18 (by decide) (fun c18 => ?_) (fun c18 => ?_)
        · replace c18 : ¬ x0.toInt = (0 : Int64).toInt := fun zq => c18 ((lg_cmp_eq _ _).mpr (Int64.toInt_inj.symm.mpr zq))
          refine lv_iload_n hx hb dX8_function_28 rfl (lv_at hl 1 rfl) ?_
          refine lv_tableIn (tgt := 93) (off := 64) hx hb dX8_function_29 (by decide +kernel) (by decide +kernel) (by decide +kernel) (by decide) ?_
          refine lv_lload_n hx hb dX8_function_93 rfl (lv_at hl 2 rfl) ?_
          refine lv_lload hx hb dX8_function_94 (lv_at hl 3 rfl) ?_
          refine lv_ldiv hx hb dX8_function_96 (fun z => c18 (by rw [z])) ?_
          exact q_lret C hP hS (Or.inl ⟨(c0 / x0), by have z9 : ¬ x0 = 0 := fun z => c18 (by rw [z]); simp [xFn, z9], rfl, rfl⟩) (by omega) dX8_function_97
        · replace c18 : x0.toInt = (0 : Int64).toInt := Int64.toInt_inj.symm.mp ((lg_cmp_eq _ _).mp c18)
          refine lv_aload_n hx hb dX8_function_21 rfl (lv_at hl 0 rfl) ?_
          refine lv_iconst (v := 1) hx hb dX8_function_22 (by decide) ?_
          refine q_put C hP hS hY rfl inX8 tyX8 tyX8_ok nmX8 10 (by decide) g1177 rfl rfl rfl (Nat.le_of_ble_eq_true rfl) dX8_function_23 (fun H locs hP hS => ?_)
          replace hY : (qs h y (.inr (8, [.ref ms, .ref mb, .ref mw, .int gr, .int cd, .int ca, .int mv, .ref od, .ref pt, .int ct, .int 1, .ref fi, .ref re, .int cs, .ref rc, .ref rs, .ref so, .ref ot, .ref cn, .ref la, .int ce, .ref ro, .int rn]))) y = some (.inr (8, [.ref ms, .ref mb, .ref mw, .int gr, .int cd, .int ca, .int mv, .ref od, .ref pt, .int ct, .int 1, .ref fi, .ref re, .int cs, .ref rc, .ref rs, .ref so, .ref ot, .ref cn, .ref la, .int ce, .ref ro, .int rn])) := qs_self
          replace hP : qP D N0 (qs h y (.inr (8, [.ref ms, .ref mb, .ref mw, .int gr, .int cd, .int ca, .int mv, .ref od, .ref pt, .int ct, .int 1, .ref fi, .ref re, .int cs, .ref rc, .ref rs, .ref so, .ref ot, .ref cn, .ref la, .int ce, .ref ro, .int rn]))) H := hP
          refine lv_lconst (v := 0) hx hb dX8_function_26 (by decide) ?_
          exact q_lret C hP hS (Or.inr ⟨by have z9 := Int64.toInt_inj.mp c18; simp [xFn, z9], rfl, rfl⟩) (by omega) dX8_function_27
  · refine lv_iload_n hx hb dX8_function_0 rfl (lv_at hl 1 rfl) ?_
    refine lv_iconst (v := nI 3) hx hb dX8_function_1 (by decide) ?_
    refine lv_icmp_le (tgt := 28) hx hb dX8_function_2 (by decide) (fun c2 => ?_) (fun c2 => ?_)
    · replace c2 : 6 ≤ 3 := (nI_leI (a := 6) (b := 3) (by omega) (by omega)).mp c2
      exfalso; omega
    · replace c2 : ¬ 6 ≤ 3 := fun zq => c2 ((nI_leI (a := 6) (b := 3) (by omega) (by omega)).mpr zq)
      refine lv_iload_n hx hb dX8_function_5 rfl (lv_at hl 1 rfl) ?_
      refine lv_iconst (v := nI 5) hx hb dX8_function_6 (by decide) ?_
      refine lv_icmp_ne (tgt := 15) hx hb dX8_function_7 (by decide) (fun c7 => ?_) (fun c7 => ?_)
      · replace c7 : ¬ 6 = 5 := fun zq => c7 ((nI_eq (a := 6) (b := 5) (by omega) (by omega)).mpr zq)
        refine lv_lload_n hx hb dX8_function_15 rfl (lv_at hl 2 rfl) ?_
        refine lv_lconst (v := 0) hx hb dX8_function_16 (by decide) ?_
        refine W.lcmp hx hb dX8_function_17 ?_
        refine lv_if_ne (tgt := 28) hx hb dX8_function_18 (by decide) (fun c18 => ?_) (fun c18 => ?_)
        · replace c18 : ¬ c0.toInt = (0 : Int64).toInt := fun zq => c18 ((lg_cmp_eq _ _).mpr (Int64.toInt_inj.symm.mpr zq))
          refine lv_iload_n hx hb dX8_function_28 rfl (lv_at hl 1 rfl) ?_
          refine lv_tableOut (tgt := 98) hx hb dX8_function_29 (by decide +kernel) (by decide) ?_
          refine lv_lload hx hb dX8_function_98 (lv_at hl 3 rfl) ?_
          refine lv_lload_n hx hb dX8_function_100 rfl (lv_at hl 2 rfl) ?_
          refine lv_lrem hx hb dX8_function_101 (fun z => c18 (by rw [z])) ?_
          exact q_lret C hP hS (Or.inl ⟨(x0 - x0 / c0 * c0), by have z9 : ¬ c0 = 0 := fun z => c18 (by rw [z]); simp [xFn, z9], rfl, rfl⟩) (by omega) dX8_function_102
        · replace c18 : c0.toInt = (0 : Int64).toInt := Int64.toInt_inj.symm.mp ((lg_cmp_eq _ _).mp c18)
          refine lv_aload_n hx hb dX8_function_21 rfl (lv_at hl 0 rfl) ?_
          refine lv_iconst (v := 1) hx hb dX8_function_22 (by decide) ?_
          refine q_put C hP hS hY rfl inX8 tyX8 tyX8_ok nmX8 10 (by decide) g1177 rfl rfl rfl (Nat.le_of_ble_eq_true rfl) dX8_function_23 (fun H locs hP hS => ?_)
          replace hY : (qs h y (.inr (8, [.ref ms, .ref mb, .ref mw, .int gr, .int cd, .int ca, .int mv, .ref od, .ref pt, .int ct, .int 1, .ref fi, .ref re, .int cs, .ref rc, .ref rs, .ref so, .ref ot, .ref cn, .ref la, .int ce, .ref ro, .int rn]))) y = some (.inr (8, [.ref ms, .ref mb, .ref mw, .int gr, .int cd, .int ca, .int mv, .ref od, .ref pt, .int ct, .int 1, .ref fi, .ref re, .int cs, .ref rc, .ref rs, .ref so, .ref ot, .ref cn, .ref la, .int ce, .ref ro, .int rn])) := qs_self
          replace hP : qP D N0 (qs h y (.inr (8, [.ref ms, .ref mb, .ref mw, .int gr, .int cd, .int ca, .int mv, .ref od, .ref pt, .int ct, .int 1, .ref fi, .ref re, .int cs, .ref rc, .ref rs, .ref so, .ref ot, .ref cn, .ref la, .int ce, .ref ro, .int rn]))) H := hP
          refine lv_lconst (v := 0) hx hb dX8_function_26 (by decide) ?_
          exact q_lret C hP hS (Or.inr ⟨by have z9 := Int64.toInt_inj.mp c18; simp [xFn, z9], rfl, rfl⟩) (by omega) dX8_function_27
      · replace c7 : 6 = 5 := (nI_eq (a := 6) (b := 5) (by omega) (by omega)).mp c7
        exfalso; omega

theorem dX8_passes_0 : decode cX8_passes 0 = .ok (.iload_n 1, 1) := by decide +kernel
theorem dX8_passes_1 : decode cX8_passes 1 = .ok (.iconst 3, 1) := by decide +kernel
theorem dX8_passes_2 : decode cX8_passes 2 = .ok (.if_icmp .ne 16, 3) := by decide +kernel
theorem dX8_passes_5 : decode cX8_passes 5 = .ok (.lload_n 2, 1) := by decide +kernel
theorem dX8_passes_6 : decode cX8_passes 6 = .ok (.lconst 0, 1) := by decide +kernel
theorem dX8_passes_7 : decode cX8_passes 7 = .ok (.lcmp, 1) := by decide +kernel
theorem dX8_passes_8 : decode cX8_passes 8 = .ok (.ifCond .ne 10, 3) := by decide +kernel
theorem dX8_passes_11 : decode cX8_passes 11 = .ok (.aload_n 0, 1) := by decide +kernel
theorem dX8_passes_12 : decode cX8_passes 12 = .ok (.iconst 1, 1) := by decide +kernel
theorem dX8_passes_13 : decode cX8_passes 13 = .ok (.putfield 155, 3) := by decide +kernel
theorem dX8_passes_16 : decode cX8_passes 16 = .ok (.iconst 0, 1) := by decide +kernel
theorem dX8_passes_17 : decode cX8_passes 17 = .ok (.ireturn, 1) := by decide +kernel
theorem dX8_passes_18 : decode cX8_passes 18 = .ok (.iload_n 1, 1) := by decide +kernel
theorem dX8_passes_19 : decode cX8_passes 19 = .ok (.ifCond .ne 18, 3) := by decide +kernel
theorem dX8_passes_22 : decode cX8_passes 22 = .ok (.lload 4, 2) := by decide +kernel
theorem dX8_passes_24 : decode cX8_passes 24 = .ok (.lload_n 2, 1) := by decide +kernel
theorem dX8_passes_25 : decode cX8_passes 25 = .ok (.lcmp, 1) := by decide +kernel
theorem dX8_passes_26 : decode cX8_passes 26 = .ok (.ifCond .ge 7, 3) := by decide +kernel
theorem dX8_passes_29 : decode cX8_passes 29 = .ok (.iconst 1, 1) := by decide +kernel
theorem dX8_passes_30 : decode cX8_passes 30 = .ok (.goto 72, 3) := by decide +kernel
theorem dX8_passes_33 : decode cX8_passes 33 = .ok (.iconst 0, 1) := by decide +kernel
theorem dX8_passes_34 : decode cX8_passes 34 = .ok (.goto 68, 3) := by decide +kernel
theorem dX8_passes_37 : decode cX8_passes 37 = .ok (.iload_n 1, 1) := by decide +kernel
theorem dX8_passes_38 : decode cX8_passes 38 = .ok (.iconst 1, 1) := by decide +kernel
theorem dX8_passes_39 : decode cX8_passes 39 = .ok (.if_icmp .ne 20, 3) := by decide +kernel
theorem dX8_passes_42 : decode cX8_passes 42 = .ok (.lload 4, 2) := by decide +kernel
theorem dX8_passes_44 : decode cX8_passes 44 = .ok (.lload_n 2, 1) := by decide +kernel
theorem dX8_passes_45 : decode cX8_passes 45 = .ok (.land, 1) := by decide +kernel
theorem dX8_passes_46 : decode cX8_passes 46 = .ok (.lconst 0, 1) := by decide +kernel
theorem dX8_passes_47 : decode cX8_passes 47 = .ok (.lcmp, 1) := by decide +kernel
theorem dX8_passes_48 : decode cX8_passes 48 = .ok (.ifCond .eq 7, 3) := by decide +kernel
theorem dX8_passes_51 : decode cX8_passes 51 = .ok (.iconst 1, 1) := by decide +kernel
theorem dX8_passes_52 : decode cX8_passes 52 = .ok (.goto 50, 3) := by decide +kernel
theorem dX8_passes_55 : decode cX8_passes 55 = .ok (.iconst 0, 1) := by decide +kernel
theorem dX8_passes_56 : decode cX8_passes 56 = .ok (.goto 46, 3) := by decide +kernel
theorem dX8_passes_59 : decode cX8_passes 59 = .ok (.iload_n 1, 1) := by decide +kernel
theorem dX8_passes_60 : decode cX8_passes 60 = .ok (.iconst 2, 1) := by decide +kernel
theorem dX8_passes_61 : decode cX8_passes 61 = .ok (.if_icmp .ne 18, 3) := by decide +kernel
theorem dX8_passes_64 : decode cX8_passes 64 = .ok (.lload 4, 2) := by decide +kernel
theorem dX8_passes_66 : decode cX8_passes 66 = .ok (.lload_n 2, 1) := by decide +kernel
theorem dX8_passes_67 : decode cX8_passes 67 = .ok (.lcmp, 1) := by decide +kernel
theorem dX8_passes_68 : decode cX8_passes 68 = .ok (.ifCond .ne 7, 3) := by decide +kernel
theorem dX8_passes_71 : decode cX8_passes 71 = .ok (.iconst 1, 1) := by decide +kernel
theorem dX8_passes_72 : decode cX8_passes 72 = .ok (.goto 30, 3) := by decide +kernel
theorem dX8_passes_75 : decode cX8_passes 75 = .ok (.iconst 0, 1) := by decide +kernel
theorem dX8_passes_76 : decode cX8_passes 76 = .ok (.goto 26, 3) := by decide +kernel
theorem dX8_passes_79 : decode cX8_passes 79 = .ok (.iload_n 1, 1) := by decide +kernel
theorem dX8_passes_80 : decode cX8_passes 80 = .ok (.iconst 3, 1) := by decide +kernel
theorem dX8_passes_81 : decode cX8_passes 81 = .ok (.if_icmp .ne 20, 3) := by decide +kernel
theorem dX8_passes_84 : decode cX8_passes 84 = .ok (.lload 4, 2) := by decide +kernel
theorem dX8_passes_86 : decode cX8_passes 86 = .ok (.lload_n 2, 1) := by decide +kernel
theorem dX8_passes_87 : decode cX8_passes 87 = .ok (.lrem, 1) := by decide +kernel
theorem dX8_passes_88 : decode cX8_passes 88 = .ok (.lconst 0, 1) := by decide +kernel
theorem dX8_passes_89 : decode cX8_passes 89 = .ok (.lcmp, 1) := by decide +kernel
theorem dX8_passes_90 : decode cX8_passes 90 = .ok (.ifCond .ne 7, 3) := by decide +kernel
theorem dX8_passes_93 : decode cX8_passes 93 = .ok (.iconst 1, 1) := by decide +kernel
theorem dX8_passes_94 : decode cX8_passes 94 = .ok (.goto 8, 3) := by decide +kernel
theorem dX8_passes_97 : decode cX8_passes 97 = .ok (.iconst 0, 1) := by decide +kernel
theorem dX8_passes_98 : decode cX8_passes 98 = .ok (.goto 4, 3) := by decide +kernel
theorem dX8_passes_101 : decode cX8_passes 101 = .ok (.iconst 1, 1) := by decide +kernel
theorem dX8_passes_102 : decode cX8_passes 102 = .ok (.ireturn, 1) := by decide +kernel
set_option maxRecDepth 100000 in
set_option maxHeartbeats 4000000 in
theorem c_X8_passes (l : Launch) (D : va_G) (cy : Nat → ClassId) (N0 : Nat) (h : qH) (y ms mb mw od pt fi re rc rs so ot cn la ro : Nat) (gr cd ca mv ct fau cs ce rn : Int32) (w : Nat) (x0 c0 : Int64) (hY : h y = some (.inr (8, [.ref ms, .ref mb, .ref mw, .int gr, .int cd, .int ca, .int mv, .ref od, .ref pt, .int ct, .int fau, .ref fi, .ref re, .int cs, .ref rc, .ref rs, .ref so, .ref ot, .ref cn, .ref la, .int ce, .ref ro, .int rn]))) (hw : w ≤ 4) : qC l D cy N0 yX8_passes cX8_passes 6 (some .boolean) 0 0 0 0 [.ref y, .int (nI w), .long c0, .long x0] h (fun v h' => (∃ r, xTs w c0 x0 = some r ∧ v = some (.int (nI (if r = true then 1 else 0))) ∧ h = h') ∨ (xTs w c0 x0 = none ∧ v = some (.int 0) ∧ h' = qs h y (.inr (8, [.ref ms, .ref mb, .ref mw, .int gr, .int cd, .int ca, .int mv, .ref od, .ref pt, .int ct, .int 1, .ref fi, .ref re, .int cs, .ref rc, .ref rs, .ref so, .ref ot, .ref cn, .ref la, .int ce, .ref ro, .int rn])))) (fun E h' => False) := by
  refine q_ofW (by decide) (by exact Nat.le_of_ble_eq_true rfl) ?_
  intro p e s m below meth c ls C hP hl
  have hx := C.1
  have hb := C.2.1
  have hS : va_S (qA N0) s.heap s.heap [] := va_S.rf
  have hl : lv_has ls 6 [(0, .ref y), (1, .int (nI w)), (2, .long c0), (4, .long x0)] := hl
  have hle : qle h h := qle_rf
  rcases (show w = 0 ∨ w = 1 ∨ w = 2 ∨ w = 3 ∨ w = 4 by omega) with rfl | rfl | rfl | rfl | rfl
  · refine lv_iload_n hx hb dX8_passes_0 rfl (lv_at hl 1 rfl) ?_
    refine lv_iconst (v := nI 3) hx hb dX8_passes_1 (by decide) ?_
    refine lv_icmp_ne (tgt := 18) hx hb dX8_passes_2 (by decide) (fun c2 => ?_) (fun c2 => ?_)
    · replace c2 : ¬ 0 = 3 := fun zq => c2 ((nI_eq (a := 0) (b := 3) (by omega) (by omega)).mpr zq)
      refine lv_iload_n hx hb dX8_passes_18 rfl (lv_at hl 1 rfl) ?_
      refine lv_if_ne (tgt := 37) hx hb dX8_passes_19 (by decide) (fun c19 => ?_) (fun c19 => ?_)
      · replace c19 : ¬ 0 = 0 := fun zq => c19 ((nI_eq (a := 0) (b := 0) (by omega) (by omega)).mpr zq)
        exfalso; omega
      · replace c19 : 0 = 0 := (nI_eq (a := 0) (b := 0) (by omega) (by omega)).mp c19
        refine lv_lload hx hb dX8_passes_22 (lv_at hl 3 rfl) ?_
        refine lv_lload_n hx hb dX8_passes_24 rfl (lv_at hl 2 rfl) ?_
        refine W.lcmp hx hb dX8_passes_25 ?_
        refine lv_if_ge (tgt := 33) hx hb dX8_passes_26 (by decide) (fun c26 => ?_) (fun c26 => ?_)
        · replace c26 : c0.toInt ≤ x0.toInt := Int64.le_iff_toInt_le.mp ((lg_cmp_ge _ _).mp c26)
          refine lv_iconst (v := nI 0) hx hb dX8_passes_33 (by decide) ?_
          refine lv_goto (tgt := 102) hx hb dX8_passes_34 (by decide) ?_
          exact q_zret C hP hS (Or.inl rfl) (Or.inl ⟨false, by unfold xTs; rw [if_pos rfl, decide_eq_false (by omega)], rfl, rfl⟩) (by omega) dX8_passes_102
        · replace c26 : ¬ c0.toInt ≤ x0.toInt := fun zq => c26 ((lg_cmp_ge _ _).mpr (Int64.le_iff_toInt_le.mpr zq))
          refine lv_iconst (v := nI 1) hx hb dX8_passes_29 (by decide) ?_
          refine lv_goto (tgt := 102) hx hb dX8_passes_30 (by decide) ?_
          exact q_zret C hP hS (Or.inr rfl) (Or.inl ⟨true, by unfold xTs; rw [if_pos rfl, decide_eq_true (by omega)], rfl, rfl⟩) (by omega) dX8_passes_102
    · replace c2 : 0 = 3 := (nI_eq (a := 0) (b := 3) (by omega) (by omega)).mp c2
      exfalso; omega
  · refine lv_iload_n hx hb dX8_passes_0 rfl (lv_at hl 1 rfl) ?_
    refine lv_iconst (v := nI 3) hx hb dX8_passes_1 (by decide) ?_
    refine lv_icmp_ne (tgt := 18) hx hb dX8_passes_2 (by decide) (fun c2 => ?_) (fun c2 => ?_)
    · replace c2 : ¬ 1 = 3 := fun zq => c2 ((nI_eq (a := 1) (b := 3) (by omega) (by omega)).mpr zq)
      refine lv_iload_n hx hb dX8_passes_18 rfl (lv_at hl 1 rfl) ?_
      refine lv_if_ne (tgt := 37) hx hb dX8_passes_19 (by decide) (fun c19 => ?_) (fun c19 => ?_)
      · replace c19 : ¬ 1 = 0 := fun zq => c19 ((nI_eq (a := 1) (b := 0) (by omega) (by omega)).mpr zq)
        refine lv_iload_n hx hb dX8_passes_37 rfl (lv_at hl 1 rfl) ?_
        refine lv_iconst (v := nI 1) hx hb dX8_passes_38 (by decide) ?_
        refine lv_icmp_ne (tgt := 59) hx hb dX8_passes_39 (by decide) (fun c39 => ?_) (fun c39 => ?_)
        · replace c39 : ¬ 1 = 1 := fun zq => c39 ((nI_eq (a := 1) (b := 1) (by omega) (by omega)).mpr zq)
          exfalso; omega
        · replace c39 : 1 = 1 := (nI_eq (a := 1) (b := 1) (by omega) (by omega)).mp c39
          refine lv_lload hx hb dX8_passes_42 (lv_at hl 3 rfl) ?_
          refine lv_lload_n hx hb dX8_passes_44 rfl (lv_at hl 2 rfl) ?_
          refine lv_land hx hb dX8_passes_45 ?_
          refine lv_lconst (v := 0) hx hb dX8_passes_46 (by decide) ?_
          refine W.lcmp hx hb dX8_passes_47 ?_
          refine lv_if_eq (tgt := 55) hx hb dX8_passes_48 (by decide) (fun c48 => ?_) (fun c48 => ?_)
          · replace c48 : (x0 &&& c0).toInt = (0 : Int64).toInt := Int64.toInt_inj.symm.mp ((lg_cmp_eq _ _).mp c48)
            refine lv_iconst (v := nI 0) hx hb dX8_passes_55 (by decide) ?_
            refine lv_goto (tgt := 102) hx hb dX8_passes_56 (by decide) ?_
            exact q_zret C hP hS (Or.inl rfl) (Or.inl ⟨false, by unfold xTs; rw [if_neg (by decide), if_pos rfl, decide_eq_false (fun z => z (Int64.toInt_inj.mp c48))], rfl, rfl⟩) (by omega) dX8_passes_102
          · replace c48 : ¬ (x0 &&& c0).toInt = (0 : Int64).toInt := fun zq => c48 ((lg_cmp_eq _ _).mpr (Int64.toInt_inj.symm.mpr zq))
            refine lv_iconst (v := nI 1) hx hb dX8_passes_51 (by decide) ?_
            refine lv_goto (tgt := 102) hx hb dX8_passes_52 (by decide) ?_
            exact q_zret C hP hS (Or.inr rfl) (Or.inl ⟨true, by unfold xTs; rw [if_neg (by decide), if_pos rfl, decide_eq_true (show ¬ (x0 &&& c0) = 0 from fun z => c48 (by rw [z]))], rfl, rfl⟩) (by omega) dX8_passes_102
      · replace c19 : 1 = 0 := (nI_eq (a := 1) (b := 0) (by omega) (by omega)).mp c19
        exfalso; omega
    · replace c2 : 1 = 3 := (nI_eq (a := 1) (b := 3) (by omega) (by omega)).mp c2
      exfalso; omega
  · refine lv_iload_n hx hb dX8_passes_0 rfl (lv_at hl 1 rfl) ?_
    refine lv_iconst (v := nI 3) hx hb dX8_passes_1 (by decide) ?_
    refine lv_icmp_ne (tgt := 18) hx hb dX8_passes_2 (by decide) (fun c2 => ?_) (fun c2 => ?_)
    · replace c2 : ¬ 2 = 3 := fun zq => c2 ((nI_eq (a := 2) (b := 3) (by omega) (by omega)).mpr zq)
      refine lv_iload_n hx hb dX8_passes_18 rfl (lv_at hl 1 rfl) ?_
      refine lv_if_ne (tgt := 37) hx hb dX8_passes_19 (by decide) (fun c19 => ?_) (fun c19 => ?_)
      · replace c19 : ¬ 2 = 0 := fun zq => c19 ((nI_eq (a := 2) (b := 0) (by omega) (by omega)).mpr zq)
        refine lv_iload_n hx hb dX8_passes_37 rfl (lv_at hl 1 rfl) ?_
        refine lv_iconst (v := nI 1) hx hb dX8_passes_38 (by decide) ?_
        refine lv_icmp_ne (tgt := 59) hx hb dX8_passes_39 (by decide) (fun c39 => ?_) (fun c39 => ?_)
        · replace c39 : ¬ 2 = 1 := fun zq => c39 ((nI_eq (a := 2) (b := 1) (by omega) (by omega)).mpr zq)
          refine lv_iload_n hx hb dX8_passes_59 rfl (lv_at hl 1 rfl) ?_
          refine lv_iconst (v := nI 2) hx hb dX8_passes_60 (by decide) ?_
          refine lv_icmp_ne (tgt := 79) hx hb dX8_passes_61 (by decide) (fun c61 => ?_) (fun c61 => ?_)
          · replace c61 : ¬ 2 = 2 := fun zq => c61 ((nI_eq (a := 2) (b := 2) (by omega) (by omega)).mpr zq)
            exfalso; omega
          · replace c61 : 2 = 2 := (nI_eq (a := 2) (b := 2) (by omega) (by omega)).mp c61
            refine lv_lload hx hb dX8_passes_64 (lv_at hl 3 rfl) ?_
            refine lv_lload_n hx hb dX8_passes_66 rfl (lv_at hl 2 rfl) ?_
            refine W.lcmp hx hb dX8_passes_67 ?_
            refine lv_if_ne (tgt := 75) hx hb dX8_passes_68 (by decide) (fun c68 => ?_) (fun c68 => ?_)
            · replace c68 : ¬ x0.toInt = c0.toInt := fun zq => c68 ((lg_cmp_eq _ _).mpr (Int64.toInt_inj.symm.mpr zq))
              refine lv_iconst (v := nI 0) hx hb dX8_passes_75 (by decide) ?_
              refine lv_goto (tgt := 102) hx hb dX8_passes_76 (by decide) ?_
              exact q_zret C hP hS (Or.inl rfl) (Or.inl ⟨false, by unfold xTs; rw [if_neg (by decide), if_neg (by decide), if_pos rfl, decide_eq_false (fun z => c68 (by rw [z]))], rfl, rfl⟩) (by omega) dX8_passes_102
            · replace c68 : x0.toInt = c0.toInt := Int64.toInt_inj.symm.mp ((lg_cmp_eq _ _).mp c68)
              refine lv_iconst (v := nI 1) hx hb dX8_passes_71 (by decide) ?_
              refine lv_goto (tgt := 102) hx hb dX8_passes_72 (by decide) ?_
              exact q_zret C hP hS (Or.inr rfl) (Or.inl ⟨true, by unfold xTs; rw [if_neg (by decide), if_neg (by decide), if_pos rfl, decide_eq_true (Int64.toInt_inj.mp c68)], rfl, rfl⟩) (by omega) dX8_passes_102
        · replace c39 : 2 = 1 := (nI_eq (a := 2) (b := 1) (by omega) (by omega)).mp c39
          exfalso; omega
      · replace c19 : 2 = 0 := (nI_eq (a := 2) (b := 0) (by omega) (by omega)).mp c19
        exfalso; omega
    · replace c2 : 2 = 3 := (nI_eq (a := 2) (b := 3) (by omega) (by omega)).mp c2
      exfalso; omega
  · refine lv_iload_n hx hb dX8_passes_0 rfl (lv_at hl 1 rfl) ?_
    refine lv_iconst (v := nI 3) hx hb dX8_passes_1 (by decide) ?_
    refine lv_icmp_ne (tgt := 18) hx hb dX8_passes_2 (by decide) (fun c2 => ?_) (fun c2 => ?_)
    · replace c2 : ¬ 3 = 3 := fun zq => c2 ((nI_eq (a := 3) (b := 3) (by omega) (by omega)).mpr zq)
      exfalso; omega
    · replace c2 : 3 = 3 := (nI_eq (a := 3) (b := 3) (by omega) (by omega)).mp c2
      refine lv_lload_n hx hb dX8_passes_5 rfl (lv_at hl 2 rfl) ?_
      refine lv_lconst (v := 0) hx hb dX8_passes_6 (by decide) ?_
      refine W.lcmp hx hb dX8_passes_7 ?_
      refine lv_if_ne (tgt := 18) hx hb dX8_passes_8 (by decide) (fun c8 => ?_) (fun c8 => ?_)
      · replace c8 : ¬ c0.toInt = (0 : Int64).toInt := fun zq => c8 ((lg_cmp_eq _ _).mpr (Int64.toInt_inj.symm.mpr zq))
        have hz9 : ¬ c0 = 0 := fun z => c8 (by rw [z])
        refine lv_iload_n hx hb dX8_passes_18 rfl (lv_at hl 1 rfl) ?_
        refine lv_if_ne (tgt := 37) hx hb dX8_passes_19 (by decide) (fun c19 => ?_) (fun c19 => ?_)
        · replace c19 : ¬ 3 = 0 := fun zq => c19 ((nI_eq (a := 3) (b := 0) (by omega) (by omega)).mpr zq)
          refine lv_iload_n hx hb dX8_passes_37 rfl (lv_at hl 1 rfl) ?_
          refine lv_iconst (v := nI 1) hx hb dX8_passes_38 (by decide) ?_
          refine lv_icmp_ne (tgt := 59) hx hb dX8_passes_39 (by decide) (fun c39 => ?_) (fun c39 => ?_)
          · replace c39 : ¬ 3 = 1 := fun zq => c39 ((nI_eq (a := 3) (b := 1) (by omega) (by omega)).mpr zq)
            refine lv_iload_n hx hb dX8_passes_59 rfl (lv_at hl 1 rfl) ?_
            refine lv_iconst (v := nI 2) hx hb dX8_passes_60 (by decide) ?_
            refine lv_icmp_ne (tgt := 79) hx hb dX8_passes_61 (by decide) (fun c61 => ?_) (fun c61 => ?_)
            · replace c61 : ¬ 3 = 2 := fun zq => c61 ((nI_eq (a := 3) (b := 2) (by omega) (by omega)).mpr zq)
              refine lv_iload_n hx hb dX8_passes_79 rfl (lv_at hl 1 rfl) ?_
              refine lv_iconst (v := nI 3) hx hb dX8_passes_80 (by decide) ?_
              refine lv_icmp_ne (tgt := 101) hx hb dX8_passes_81 (by decide) (fun c81 => ?_) (fun c81 => ?_)
              · replace c81 : ¬ 3 = 3 := fun zq => c81 ((nI_eq (a := 3) (b := 3) (by omega) (by omega)).mpr zq)
                exfalso; omega
              · replace c81 : 3 = 3 := (nI_eq (a := 3) (b := 3) (by omega) (by omega)).mp c81
                refine lv_lload hx hb dX8_passes_84 (lv_at hl 3 rfl) ?_
                refine lv_lload_n hx hb dX8_passes_86 rfl (lv_at hl 2 rfl) ?_
                refine lv_lrem hx hb dX8_passes_87 hz9 ?_
                refine lv_lconst (v := 0) hx hb dX8_passes_88 (by decide) ?_
                refine W.lcmp hx hb dX8_passes_89 ?_
                refine lv_if_ne (tgt := 97) hx hb dX8_passes_90 (by decide) (fun c90 => ?_) (fun c90 => ?_)
                · replace c90 : ¬ (x0 - x0 / c0 * c0).toInt = (0 : Int64).toInt := fun zq => c90 ((lg_cmp_eq _ _).mpr (Int64.toInt_inj.symm.mpr zq))
                  refine lv_iconst (v := nI 0) hx hb dX8_passes_97 (by decide) ?_
                  refine lv_goto (tgt := 102) hx hb dX8_passes_98 (by decide) ?_
                  exact q_zret C hP hS (Or.inl rfl) (Or.inl ⟨false, by unfold xTs; rw [if_neg (by decide), if_neg (by decide), if_neg (by decide), if_pos rfl, if_neg hz9, decide_eq_false (fun z => c90 (by rw [z]))], rfl, rfl⟩) (by omega) dX8_passes_102
                · replace c90 : (x0 - x0 / c0 * c0).toInt = (0 : Int64).toInt := Int64.toInt_inj.symm.mp ((lg_cmp_eq _ _).mp c90)
                  refine lv_iconst (v := nI 1) hx hb dX8_passes_93 (by decide) ?_
                  refine lv_goto (tgt := 102) hx hb dX8_passes_94 (by decide) ?_
                  exact q_zret C hP hS (Or.inr rfl) (Or.inl ⟨true, by unfold xTs; rw [if_neg (by decide), if_neg (by decide), if_neg (by decide), if_pos rfl, if_neg hz9, decide_eq_true (Int64.toInt_inj.mp c90)], rfl, rfl⟩) (by omega) dX8_passes_102
            · replace c61 : 3 = 2 := (nI_eq (a := 3) (b := 2) (by omega) (by omega)).mp c61
              exfalso; omega
          · replace c39 : 3 = 1 := (nI_eq (a := 3) (b := 1) (by omega) (by omega)).mp c39
            exfalso; omega
        · replace c19 : 3 = 0 := (nI_eq (a := 3) (b := 0) (by omega) (by omega)).mp c19
          exfalso; omega
      · replace c8 : c0.toInt = (0 : Int64).toInt := Int64.toInt_inj.symm.mp ((lg_cmp_eq _ _).mp c8)
        refine lv_aload_n hx hb dX8_passes_11 rfl (lv_at hl 0 rfl) ?_
        refine lv_iconst (v := 1) hx hb dX8_passes_12 (by decide) ?_
        refine q_put C hP hS hY rfl inX8 tyX8 tyX8_ok nmX8 10 (by decide) g1177 rfl rfl rfl (Nat.le_of_ble_eq_true rfl) dX8_passes_13 (fun H locs hP hS => ?_)
        replace hY : (qs h y (.inr (8, [.ref ms, .ref mb, .ref mw, .int gr, .int cd, .int ca, .int mv, .ref od, .ref pt, .int ct, .int 1, .ref fi, .ref re, .int cs, .ref rc, .ref rs, .ref so, .ref ot, .ref cn, .ref la, .int ce, .ref ro, .int rn]))) y = some (.inr (8, [.ref ms, .ref mb, .ref mw, .int gr, .int cd, .int ca, .int mv, .ref od, .ref pt, .int ct, .int 1, .ref fi, .ref re, .int cs, .ref rc, .ref rs, .ref so, .ref ot, .ref cn, .ref la, .int ce, .ref ro, .int rn])) := qs_self
        replace hP : qP D N0 (qs h y (.inr (8, [.ref ms, .ref mb, .ref mw, .int gr, .int cd, .int ca, .int mv, .ref od, .ref pt, .int ct, .int 1, .ref fi, .ref re, .int cs, .ref rc, .ref rs, .ref so, .ref ot, .ref cn, .ref la, .int ce, .ref ro, .int rn]))) H := hP
        refine lv_iconst (v := nI 0) hx hb dX8_passes_16 (by decide) ?_
        exact q_zret C hP hS (Or.inl rfl) (Or.inr ⟨by have z9 := Int64.toInt_inj.mp c8; simp [xTs, z9], rfl, rfl⟩) (by omega) dX8_passes_17
  · refine lv_iload_n hx hb dX8_passes_0 rfl (lv_at hl 1 rfl) ?_
    refine lv_iconst (v := nI 3) hx hb dX8_passes_1 (by decide) ?_
    refine lv_icmp_ne (tgt := 18) hx hb dX8_passes_2 (by decide) (fun c2 => ?_) (fun c2 => ?_)
    · replace c2 : ¬ 4 = 3 := fun zq => c2 ((nI_eq (a := 4) (b := 3) (by omega) (by omega)).mpr zq)
      refine lv_iload_n hx hb dX8_passes_18 rfl (lv_at hl 1 rfl) ?_
      refine lv_if_ne (tgt := 37) hx hb dX8_passes_19 (by decide) (fun c19 => ?_) (fun c19 => ?_)
      · replace c19 : ¬ 4 = 0 := fun zq => c19 ((nI_eq (a := 4) (b := 0) (by omega) (by omega)).mpr zq)
        refine lv_iload_n hx hb dX8_passes_37 rfl (lv_at hl 1 rfl) ?_
        refine lv_iconst (v := nI 1) hx hb dX8_passes_38 (by decide) ?_
        refine lv_icmp_ne (tgt := 59) hx hb dX8_passes_39 (by decide) (fun c39 => ?_) (fun c39 => ?_)
        · replace c39 : ¬ 4 = 1 := fun zq => c39 ((nI_eq (a := 4) (b := 1) (by omega) (by omega)).mpr zq)
          refine lv_iload_n hx hb dX8_passes_59 rfl (lv_at hl 1 rfl) ?_
          refine lv_iconst (v := nI 2) hx hb dX8_passes_60 (by decide) ?_
          refine lv_icmp_ne (tgt := 79) hx hb dX8_passes_61 (by decide) (fun c61 => ?_) (fun c61 => ?_)
          · replace c61 : ¬ 4 = 2 := fun zq => c61 ((nI_eq (a := 4) (b := 2) (by omega) (by omega)).mpr zq)
            refine lv_iload_n hx hb dX8_passes_79 rfl (lv_at hl 1 rfl) ?_
            refine lv_iconst (v := nI 3) hx hb dX8_passes_80 (by decide) ?_
            refine lv_icmp_ne (tgt := 101) hx hb dX8_passes_81 (by decide) (fun c81 => ?_) (fun c81 => ?_)
            · replace c81 : ¬ 4 = 3 := fun zq => c81 ((nI_eq (a := 4) (b := 3) (by omega) (by omega)).mpr zq)
              refine lv_iconst (v := nI 1) hx hb dX8_passes_101 (by decide) ?_
              exact q_zret C hP hS (Or.inr rfl) (Or.inl ⟨true, by simp [xTs], rfl, rfl⟩) (by omega) dX8_passes_102
            · replace c81 : 4 = 3 := (nI_eq (a := 4) (b := 3) (by omega) (by omega)).mp c81
              exfalso; omega
          · replace c61 : 4 = 2 := (nI_eq (a := 4) (b := 2) (by omega) (by omega)).mp c61
            exfalso; omega
        · replace c39 : 4 = 1 := (nI_eq (a := 4) (b := 1) (by omega) (by omega)).mp c39
          exfalso; omega
      · replace c19 : 4 = 0 := (nI_eq (a := 4) (b := 0) (by omega) (by omega)).mp c19
        exfalso; omega
    · replace c2 : 4 = 3 := (nI_eq (a := 4) (b := 3) (by omega) (by omega)).mp c2
      exfalso; omega
