
set_option maxRecDepth 100000 in
set_option maxHeartbeats 4000000 in
theorem d_X6_needDivisor (l : Launch) (D : va_G) (cy : Nat → ClassId) (N0 : Nat) (h : qH) (n : Int64) : qC l D cy N0 yX6_needDivisor cX6_needDivisor 2 none 6 82 (if n = 0 then 1 else 0) (if n = 0 then 6 else 0) [.long n] h (fun v h' => v = none ∧ h = h' ∧ n ≠ 0) (fun E h' => E = "java/lang/ArithmeticException" ∧ h = h' ∧ n = 0) := by
  refine q_ofW (by decide) (by exact Nat.le_of_ble_eq_true rfl) ?_
  intro p e s m below meth c ls C hP hl
  have hx := C.1
  have hb := C.2.1
  have hS : va_S (qA N0) s.heap s.heap [] := va_S.rf
  have hl : lv_has ls 2 [(0, .long n)] := hl
  refine lv_lload_n hx hb dX6_needDivisor_0 rfl (lv_at hl 0 rfl) ?_
  refine lv_lconst (v := 0) hx hb dX6_needDivisor_1 (by decide) ?_
  refine W.lcmp hx hb dX6_needDivisor_2 ?_
  refine lv_if_ne (tgt := 17) hx hb dX6_needDivisor_3 (by decide) (fun c3 => ?_) (fun c3 => ?_)
  · exact q_vret C hP hS ⟨rfl, rfl, fun q => c3 ((lg_cmp_eq _ _).mpr q)⟩ (by omega) dX6_needDivisor_17
  · have e61 : (if n = 0 then 1 else 0) = 1 ∧ (if n = 0 then 6 else 0) = 6 := ⟨if_pos ((lg_cmp_eq _ _).mp c3), if_pos ((lg_cmp_eq _ _).mp c3)⟩
    exact q_throw (text := "division by 0") C kt_ARE (by decide) hP hS hl.1 dX6_needDivisor_6 dX6_needDivisor_9 dX6_needDivisor_10 dX6_needDivisor_13 dX6_needDivisor_16 (by simp [q_catrf, q_cati, q_catl, q_cata, q_catn]) (by omega) ⟨rfl, rfl, (lg_cmp_eq _ _).mp c3⟩
theorem d_ifA {w : Nat} {x c : Int64} (hw : w = 4 ∨ w = 6) : (if xFn w c x = none then 1 else 0) = (if c = 0 then 1 else 0) ∧ (if xFn w c x = none then 6 else 0) = (if c = 0 then 6 else 0) := by
  rcases hw with rfl | rfl <;> by_cases z : c = 0 <;> simp [xFn, z]
theorem d_ifAx {w : Nat} {x c : Int64} (hw : w = 5) : (if xFn w c x = none then 1 else 0) = (if x = 0 then 1 else 0) ∧ (if xFn w c x = none then 6 else 0) = (if x = 0 then 6 else 0) := by
  subst hw
  by_cases z : x = 0 <;> simp [xFn, z]
theorem d_ifP {w : Nat} {x c : Int64} (hw : w = 3) : (if xTs w c x = none then 1 else 0) = (if c = 0 then 1 else 0) ∧ (if xTs w c x = none then 6 else 0) = (if c = 0 then 6 else 0) := by
  subst hw
  by_cases z : c = 0 <;> simp [xTs, z]

set_option maxRecDepth 100000 in
set_option maxHeartbeats 4000000 in
theorem d_X6_applied (l : Launch) (D : va_G) (cy : Nat → ClassId) (N0 : Nat) (h : qH) (w : Nat) (x0 c0 : Int64) (hw : w ≤ 6) : qC l D cy N0 yX6_applied cX6_applied 5 (some .long) 7 103 (if xFn w c0 x0 = none then 1 else 0) (if xFn w c0 x0 = none then 6 else 0) [.int (nI w), .long x0, .long c0] h (fun v h' => ∃ r, xFn w c0 x0 = some r ∧ v = some (.long r) ∧ h = h') (fun E h' => E = "java/lang/ArithmeticException" ∧ h = h' ∧ xFn w c0 x0 = none) := by
  refine q_ofW (by decide) (by exact Nat.le_of_ble_eq_true rfl) ?_
  intro p e s m below meth c ls C hP hl
  have hx := C.1
  have hb := C.2.1
  have hS : va_S (qA N0) s.heap s.heap [] := va_S.rf
  have hl : lv_has ls 5 [(0, .int (nI w)), (1, .long x0), (3, .long c0)] := hl
  rcases (show w = 0 ∨ w = 1 ∨ w = 2 ∨ w = 3 ∨ w = 4 ∨ w = 5 ∨ w = 6 by omega) with rfl | rfl | rfl | rfl | rfl | rfl | rfl
  · refine lv_iload_n hx hb dX6_applied_0 rfl (lv_at hl 0 rfl) ?_
    refine lv_tableIn (tgt := 40) (off := 39) hx hb dX6_applied_1 (by decide +kernel) (by decide +kernel) (by decide +kernel) (by decide) ?_
    refine lv_lload_n hx hb dX6_applied_40 rfl (lv_at hl 1 rfl) ?_
    refine lv_lload_n hx hb dX6_applied_41 rfl (lv_at hl 2 rfl) ?_
    refine lv_ladd hx hb dX6_applied_42 ?_
    exact q_lret C hP hS ⟨(x0 + c0), by simp [xFn], rfl, rfl⟩ (by omega) dX6_applied_43
  · refine lv_iload_n hx hb dX6_applied_0 rfl (lv_at hl 0 rfl) ?_
    refine lv_tableIn (tgt := 44) (off := 43) hx hb dX6_applied_1 (by decide +kernel) (by decide +kernel) (by decide +kernel) (by decide) ?_
    refine lv_lload_n hx hb dX6_applied_44 rfl (lv_at hl 1 rfl) ?_
    refine lv_lload_n hx hb dX6_applied_45 rfl (lv_at hl 2 rfl) ?_
    refine lv_lmul hx hb dX6_applied_46 ?_
    exact q_lret C hP hS ⟨(x0 * c0), by simp [xFn], rfl, rfl⟩ (by omega) dX6_applied_47
  · refine lv_iload_n hx hb dX6_applied_0 rfl (lv_at hl 0 rfl) ?_
    refine lv_tableIn (tgt := 48) (off := 47) hx hb dX6_applied_1 (by decide +kernel) (by decide +kernel) (by decide +kernel) (by decide) ?_
    refine lv_lload_n hx hb dX6_applied_48 rfl (lv_at hl 1 rfl) ?_
    refine lv_lload_n hx hb dX6_applied_49 rfl (lv_at hl 2 rfl) ?_
    refine lv_land hx hb dX6_applied_50 ?_
    exact q_lret C hP hS ⟨(x0 &&& c0), by simp [xFn], rfl, rfl⟩ (by omega) dX6_applied_51
  · refine lv_iload_n hx hb dX6_applied_0 rfl (lv_at hl 0 rfl) ?_
    refine lv_tableIn (tgt := 52) (off := 51) hx hb dX6_applied_1 (by decide +kernel) (by decide +kernel) (by decide +kernel) (by decide) ?_
    refine lv_lload_n hx hb dX6_applied_52 rfl (lv_at hl 1 rfl) ?_
    refine lv_lload_n hx hb dX6_applied_53 rfl (lv_at hl 2 rfl) ?_
    refine lv_lxor hx hb dX6_applied_54 ?_
    exact q_lret C hP hS ⟨(x0 ^^^ c0), by simp [xFn], rfl, rfl⟩ (by omega) dX6_applied_55
  · refine lv_iload_n hx hb dX6_applied_0 rfl (lv_at hl 0 rfl) ?_
    refine lv_tableIn (tgt := 56) (off := 55) hx hb dX6_applied_1 (by decide +kernel) (by decide +kernel) (by decide +kernel) (by decide) ?_
    refine lv_lload_n hx hb dX6_applied_56 rfl (lv_at hl 2 rfl) ?_
    have e62 := d_ifA (w := 4) (x := x0) (c := c0) (by decide)
    refine q_callS (rest := []) C (d_X6_needDivisor l D cy N0 h c0) kX6_needDivisor g653 g654 hP hS (by first | decide | omega) hl.1 rfl (by decide) (by first | decide | omega) dX6_applied_57 (fun q ce E h' H1 locs1 hE hP hS hc1 hc2 hc3 => by obtain ⟨rfl, rfl, hz9⟩ := hE; exact q_out C hP hS hc1 hc2 hc3 ⟨rfl, rfl, by simp [xFn, hz9]⟩ (by omega)) (fun v hh1 H locs hq hP hS => ?_)
    obtain ⟨rfl, rfl, hz9⟩ := hq
    have e60 : (if c0 = 0 then 1 else 0) = 0 ∧ (if c0 = 0 then 6 else 0) = 0 := ⟨if_neg hz9, if_neg hz9⟩
    refine lv_lload_n hx hb dX6_applied_60 rfl (lv_at hl 1 rfl) ?_
    refine lv_lload_n hx hb dX6_applied_61 rfl (lv_at hl 2 rfl) ?_
    refine lv_ldiv hx hb dX6_applied_62 hz9 ?_
    exact q_lret C hP hS ⟨(x0 / c0), by simp [xFn, hz9], rfl, rfl⟩ (by omega) dX6_applied_63
  · refine lv_iload_n hx hb dX6_applied_0 rfl (lv_at hl 0 rfl) ?_
    refine lv_tableIn (tgt := 64) (off := 63) hx hb dX6_applied_1 (by decide +kernel) (by decide +kernel) (by decide +kernel) (by decide) ?_
    refine lv_lload_n hx hb dX6_applied_64 rfl (lv_at hl 1 rfl) ?_
    have e62 := d_ifAx (w := 5) (x := x0) (c := c0) (by decide)
    refine q_callS (rest := []) C (d_X6_needDivisor l D cy N0 h x0) kX6_needDivisor g653 g654 hP hS (by first | decide | omega) hl.1 rfl (by decide) (by first | decide | omega) dX6_applied_65 (fun q ce E h' H1 locs1 hE hP hS hc1 hc2 hc3 => by obtain ⟨rfl, rfl, hz9⟩ := hE; exact q_out C hP hS hc1 hc2 hc3 ⟨rfl, rfl, by simp [xFn, hz9]⟩ (by omega)) (fun v hh2 H locs hq hP hS => ?_)
    obtain ⟨rfl, rfl, hz9⟩ := hq
    have e60 : (if x0 = 0 then 1 else 0) = 0 ∧ (if x0 = 0 then 6 else 0) = 0 := ⟨if_neg hz9, if_neg hz9⟩
    refine lv_lload_n hx hb dX6_applied_68 rfl (lv_at hl 2 rfl) ?_
    refine lv_lload_n hx hb dX6_applied_69 rfl (lv_at hl 1 rfl) ?_
    refine lv_ldiv hx hb dX6_applied_70 hz9 ?_
    exact q_lret C hP hS ⟨(c0 / x0), by simp [xFn, hz9], rfl, rfl⟩ (by omega) dX6_applied_71
  · refine lv_iload_n hx hb dX6_applied_0 rfl (lv_at hl 0 rfl) ?_
    refine lv_tableOut (tgt := 72) hx hb dX6_applied_1 (by decide +kernel) (by decide) ?_
    refine lv_lload_n hx hb dX6_applied_72 rfl (lv_at hl 2 rfl) ?_
    have e62 := d_ifA (w := 6) (x := x0) (c := c0) (by decide)
    refine q_callS (rest := []) C (d_X6_needDivisor l D cy N0 h c0) kX6_needDivisor g653 g654 hP hS (by first | decide | omega) hl.1 rfl (by decide) (by first | decide | omega) dX6_applied_73 (fun q ce E h' H1 locs1 hE hP hS hc1 hc2 hc3 => by obtain ⟨rfl, rfl, hz9⟩ := hE; exact q_out C hP hS hc1 hc2 hc3 ⟨rfl, rfl, by simp [xFn, hz9]⟩ (by omega)) (fun v hh3 H locs hq hP hS => ?_)
    obtain ⟨rfl, rfl, hz9⟩ := hq
    have e60 : (if c0 = 0 then 1 else 0) = 0 ∧ (if c0 = 0 then 6 else 0) = 0 := ⟨if_neg hz9, if_neg hz9⟩
    refine lv_lload_n hx hb dX6_applied_76 rfl (lv_at hl 1 rfl) ?_
    refine lv_lload_n hx hb dX6_applied_77 rfl (lv_at hl 2 rfl) ?_
    refine lv_lrem hx hb dX6_applied_78 hz9 ?_
    exact q_lret C hP hS ⟨(x0 - x0 / c0 * c0), by simp [xFn, hz9], rfl, rfl⟩ (by omega) dX6_applied_79

set_option maxRecDepth 100000 in
set_option maxHeartbeats 4000000 in
theorem d_X6_passes (l : Launch) (D : va_G) (cy : Nat → ClassId) (N0 : Nat) (h : qH) (w : Nat) (x0 c0 : Int64) (hw : w ≤ 4) : qC l D cy N0 yX6_passes cX6_passes 5 (some .boolean) 7 103 (if xTs w c0 x0 = none then 1 else 0) (if xTs w c0 x0 = none then 6 else 0) [.int (nI w), .long x0, .long c0] h (fun v h' => ∃ r, xTs w c0 x0 = some r ∧ v = some (.int (nI (if r = true then 1 else 0))) ∧ h = h') (fun E h' => E = "java/lang/ArithmeticException" ∧ h = h' ∧ xTs w c0 x0 = none) := by
  refine q_ofW (by decide) (by exact Nat.le_of_ble_eq_true rfl) ?_
  intro p e s m below meth c ls C hP hl
  have hx := C.1
  have hb := C.2.1
  have hS : va_S (qA N0) s.heap s.heap [] := va_S.rf
  have hl : lv_has ls 5 [(0, .int (nI w)), (1, .long x0), (3, .long c0)] := hl
  rcases (show w = 0 ∨ w = 1 ∨ w = 2 ∨ w = 3 ∨ w = 4 by omega) with rfl | rfl | rfl | rfl | rfl
  · refine lv_iload_n hx hb dX6_passes_0 rfl (lv_at hl 0 rfl) ?_
    refine lv_tableIn (tgt := 32) (off := 31) hx hb dX6_passes_1 (by decide +kernel) (by decide +kernel) (by decide +kernel) (by decide) ?_
    refine lv_lload_n hx hb dX6_passes_32 rfl (lv_at hl 1 rfl) ?_
    refine lv_lload_n hx hb dX6_passes_33 rfl (lv_at hl 2 rfl) ?_
    refine W.lcmp hx hb dX6_passes_34 ?_
    refine lv_if_ge (tgt := 42) hx hb dX6_passes_35 (by decide) (fun c35 => ?_) (fun c35 => ?_)
    · replace c35 : c0.toInt ≤ x0.toInt := Int64.le_iff_toInt_le.mp ((lg_cmp_ge _ _).mp c35)
      refine lv_iconst (v := nI 0) hx hb dX6_passes_42 (by decide) ?_
      exact q_zret C hP hS (Or.inl rfl) ⟨false, by unfold xTs; rw [if_pos rfl, decide_eq_false (by omega)], rfl, rfl⟩ (by omega) dX6_passes_43
    · replace c35 : ¬ c0.toInt ≤ x0.toInt := fun zq => c35 ((lg_cmp_ge _ _).mpr (Int64.le_iff_toInt_le.mpr zq))
      refine lv_iconst (v := nI 1) hx hb dX6_passes_38 (by decide) ?_
      refine lv_goto (tgt := 43) hx hb dX6_passes_39 (by decide) ?_
      exact q_zret C hP hS (Or.inr rfl) ⟨true, by unfold xTs; rw [if_pos rfl, decide_eq_true (by omega)], rfl, rfl⟩ (by omega) dX6_passes_43
  · refine lv_iload_n hx hb dX6_passes_0 rfl (lv_at hl 0 rfl) ?_
    refine lv_tableIn (tgt := 44) (off := 43) hx hb dX6_passes_1 (by decide +kernel) (by decide +kernel) (by decide +kernel) (by decide) ?_
    refine lv_lload_n hx hb dX6_passes_44 rfl (lv_at hl 1 rfl) ?_
    refine lv_lload_n hx hb dX6_passes_45 rfl (lv_at hl 2 rfl) ?_
    refine lv_land hx hb dX6_passes_46 ?_
    refine lv_lconst (v := 0) hx hb dX6_passes_47 (by decide) ?_
    refine W.lcmp hx hb dX6_passes_48 ?_
    refine lv_if_eq (tgt := 56) hx hb dX6_passes_49 (by decide) (fun c49 => ?_) (fun c49 => ?_)
    · replace c49 : (x0 &&& c0).toInt = (0 : Int64).toInt := Int64.toInt_inj.symm.mp ((lg_cmp_eq _ _).mp c49)
      refine lv_iconst (v := nI 0) hx hb dX6_passes_56 (by decide) ?_
      exact q_zret C hP hS (Or.inl rfl) ⟨false, by unfold xTs; rw [if_neg (by decide), if_pos rfl, decide_eq_false (fun z => z (Int64.toInt_inj.mp c49))], rfl, rfl⟩ (by omega) dX6_passes_57
    · replace c49 : ¬ (x0 &&& c0).toInt = (0 : Int64).toInt := fun zq => c49 ((lg_cmp_eq _ _).mpr (Int64.toInt_inj.symm.mpr zq))
      refine lv_iconst (v := nI 1) hx hb dX6_passes_52 (by decide) ?_
      refine lv_goto (tgt := 57) hx hb dX6_passes_53 (by decide) ?_
      exact q_zret C hP hS (Or.inr rfl) ⟨true, by unfold xTs; rw [if_neg (by decide), if_pos rfl, decide_eq_true (show ¬ (x0 &&& c0) = 0 from fun z => c49 (by rw [z]))], rfl, rfl⟩ (by omega) dX6_passes_57
  · refine lv_iload_n hx hb dX6_passes_0 rfl (lv_at hl 0 rfl) ?_
    refine lv_tableIn (tgt := 58) (off := 57) hx hb dX6_passes_1 (by decide +kernel) (by decide +kernel) (by decide +kernel) (by decide) ?_
    refine lv_lload_n hx hb dX6_passes_58 rfl (lv_at hl 1 rfl) ?_
    refine lv_lload_n hx hb dX6_passes_59 rfl (lv_at hl 2 rfl) ?_
    refine W.lcmp hx hb dX6_passes_60 ?_
    refine lv_if_ne (tgt := 68) hx hb dX6_passes_61 (by decide) (fun c61 => ?_) (fun c61 => ?_)
    · replace c61 : ¬ x0.toInt = c0.toInt := fun zq => c61 ((lg_cmp_eq _ _).mpr (Int64.toInt_inj.symm.mpr zq))
      refine lv_iconst (v := nI 0) hx hb dX6_passes_68 (by decide) ?_
      exact q_zret C hP hS (Or.inl rfl) ⟨false, by unfold xTs; rw [if_neg (by decide), if_neg (by decide), if_pos rfl, decide_eq_false (fun z => c61 (by rw [z]))], rfl, rfl⟩ (by omega) dX6_passes_69
    · replace c61 : x0.toInt = c0.toInt := Int64.toInt_inj.symm.mp ((lg_cmp_eq _ _).mp c61)
      refine lv_iconst (v := nI 1) hx hb dX6_passes_64 (by decide) ?_
      refine lv_goto (tgt := 69) hx hb dX6_passes_65 (by decide) ?_
      exact q_zret C hP hS (Or.inr rfl) ⟨true, by unfold xTs; rw [if_neg (by decide), if_neg (by decide), if_pos rfl, decide_eq_true (Int64.toInt_inj.mp c61)], rfl, rfl⟩ (by omega) dX6_passes_69
  · refine lv_iload_n hx hb dX6_passes_0 rfl (lv_at hl 0 rfl) ?_
    refine lv_tableIn (tgt := 70) (off := 69) hx hb dX6_passes_1 (by decide +kernel) (by decide +kernel) (by decide +kernel) (by decide) ?_
    refine lv_lload_n hx hb dX6_passes_70 rfl (lv_at hl 2 rfl) ?_
    have e62 := d_ifP (w := 3) (x := x0) (c := c0) (by decide)
    refine q_callS (rest := []) C (d_X6_needDivisor l D cy N0 h c0) kX6_needDivisor g653 g654 hP hS (by first | decide | omega) hl.1 rfl (by decide) (by first | decide | omega) dX6_passes_71 (fun q ce E h' H1 locs1 hE hP hS hc1 hc2 hc3 => by obtain ⟨rfl, rfl, hz9⟩ := hE; exact q_out C hP hS hc1 hc2 hc3 ⟨rfl, rfl, by simp [xTs, hz9]⟩ (by omega)) (fun v hh1 H locs hq hP hS => ?_)
    obtain ⟨rfl, rfl, hz9⟩ := hq
    have e60 : (if c0 = 0 then 1 else 0) = 0 ∧ (if c0 = 0 then 6 else 0) = 0 := ⟨if_neg hz9, if_neg hz9⟩
    refine lv_lload_n hx hb dX6_passes_74 rfl (lv_at hl 1 rfl) ?_
    refine lv_lload_n hx hb dX6_passes_75 rfl (lv_at hl 2 rfl) ?_
    refine lv_lrem hx hb dX6_passes_76 hz9 ?_
    refine lv_lconst (v := 0) hx hb dX6_passes_77 (by decide) ?_
    refine W.lcmp hx hb dX6_passes_78 ?_
    refine lv_if_ne (tgt := 86) hx hb dX6_passes_79 (by decide) (fun c79 => ?_) (fun c79 => ?_)
    · replace c79 : ¬ (x0 - x0 / c0 * c0).toInt = (0 : Int64).toInt := fun zq => c79 ((lg_cmp_eq _ _).mpr (Int64.toInt_inj.symm.mpr zq))
      refine lv_iconst (v := nI 0) hx hb dX6_passes_86 (by decide) ?_
      exact q_zret C hP hS (Or.inl rfl) ⟨false, by unfold xTs; rw [if_neg (by decide), if_neg (by decide), if_neg (by decide), if_pos rfl, if_neg hz9, decide_eq_false (fun z => c79 (by rw [z]))], rfl, rfl⟩ (by omega) dX6_passes_87
    · replace c79 : (x0 - x0 / c0 * c0).toInt = (0 : Int64).toInt := Int64.toInt_inj.symm.mp ((lg_cmp_eq _ _).mp c79)
      refine lv_iconst (v := nI 1) hx hb dX6_passes_82 (by decide) ?_
      refine lv_goto (tgt := 87) hx hb dX6_passes_83 (by decide) ?_
      exact q_zret C hP hS (Or.inr rfl) ⟨true, by unfold xTs; rw [if_neg (by decide), if_neg (by decide), if_neg (by decide), if_pos rfl, if_neg hz9, decide_eq_true (Int64.toInt_inj.mp c79)], rfl, rfl⟩ (by omega) dX6_passes_87
  · refine lv_iload_n hx hb dX6_passes_0 rfl (lv_at hl 0 rfl) ?_
    refine lv_tableOut (tgt := 88) hx hb dX6_passes_1 (by decide +kernel) (by decide) ?_
    refine lv_iconst (v := nI 1) hx hb dX6_passes_88 (by decide) ?_
    exact q_zret C hP hS (Or.inr rfl) ⟨true, by simp [xTs], rfl, rfl⟩ (by omega) dX6_passes_89

set_option maxRecDepth 100000 in
set_option maxHeartbeats 4000000 in
theorem d_X6_takeMoves (l : Launch) (D : va_G) (cy : Nat → ClassId) (N0 : Nat) (h : qH) (x sl bl kr vr : Nat) (hm ca mv ed : Int32) (n : Int32) (hT : h x = some (.inr (6, [.int hm, .ref sl, .ref bl, .ref kr, .ref vr, .int ca, .int mv, .int ed]))) : qC l D cy N0 yX6_takeMoves cX6_takeMoves 2 none 6 82 (if ¬ n ≤ 20000 - mv then 1 else 0) (if ¬ n ≤ 20000 - mv then 6 else 0) [.ref x, .int n] h (fun v h' => v = none ∧ h' = qs h x (.inr (6, [.int hm, .ref sl, .ref bl, .ref kr, .ref vr, .int ca, .int (mv + n), .int ed])) ∧ n ≤ 20000 - mv) (fun E h' => E = "java/lang/IndexOutOfBoundsException" ∧ h = h' ∧ ¬ n ≤ 20000 - mv) := by
  refine q_ofW (by decide) (by exact Nat.le_of_ble_eq_true rfl) ?_
  intro p e s m below meth c ls C hP hl
  have hx := C.1
  have hb := C.2.1
  have hS : va_S (qA N0) s.heap s.heap [] := va_S.rf
  have hl : lv_has ls 2 [(0, .ref x), (1, .int n)] := hl
  refine lv_iload_n hx hb dX6_takeMoves_0 rfl (lv_at hl 1 rfl) ?_
  refine lv_sipush (v := 20000) hx hb dX6_takeMoves_1 (by decide) ?_
  refine lv_aload_n hx hb dX6_takeMoves_4 rfl (lv_at hl 0 rfl) ?_
  refine q_get C hP hT rfl inX6 6 (by decide) g74 rfl dX6_takeMoves_5 ?_
  refine lv_isub hx hb dX6_takeMoves_8 ?_
  refine lv_icmp_le (tgt := 23) hx hb dX6_takeMoves_9 (by decide) (fun c9 => ?_) (fun c9 => ?_)
  · refine lv_aload_n hx hb dX6_takeMoves_23 rfl (lv_at hl 0 rfl) ?_
    refine lv_dup hx hb dX6_takeMoves_24 rfl ?_
    refine q_get C hP hT rfl inX6 6 (by decide) g74 rfl dX6_takeMoves_25 ?_
    refine lv_iload_n hx hb dX6_takeMoves_28 rfl (lv_at hl 1 rfl) ?_
    refine lv_iadd hx hb dX6_takeMoves_29 ?_
    refine q_put C hP hS hT rfl inX6 tyX6 tyX6_ok nmX6 6 (by decide) g74 rfl rfl rfl (Nat.le_of_ble_eq_true rfl) dX6_takeMoves_30 (fun H locs hP hS => ?_)
    replace hT : (qs h x (.inr (6, [.int hm, .ref sl, .ref bl, .ref kr, .ref vr, .int ca, .int (mv + n), .int ed]))) x = some (.inr (6, [.int hm, .ref sl, .ref bl, .ref kr, .ref vr, .int ca, .int (mv + n), .int ed])) := qs_self
    replace hP : qP D N0 (qs h x (.inr (6, [.int hm, .ref sl, .ref bl, .ref kr, .ref vr, .int ca, .int (mv + n), .int ed]))) H := hP
    exact q_vret C hP hS ⟨rfl, rfl, c9⟩ (by omega) dX6_takeMoves_33
  · have e61 : (if ¬ n ≤ 20000 - mv then 1 else 0) = 1 ∧ (if ¬ n ≤ 20000 - mv then 6 else 0) = 6 := ⟨if_pos (c9), if_pos (c9)⟩
    exact q_throw (text := "more moves than there may be") C kt_IOB (by decide) hP hS hl.1 dX6_takeMoves_12 dX6_takeMoves_15 dX6_takeMoves_16 dX6_takeMoves_19 dX6_takeMoves_22 (by simp [q_catrf, q_cati, q_catl, q_cata, q_catn]) (by omega) ⟨rfl, rfl, c9⟩
theorem dX6_called_0 : decode cX6_called 0 = .ok (.aload_n 0, 1) := by decide +kernel
theorem dX6_called_1 : decode cX6_called 1 = .ok (.dup, 1) := by decide +kernel
theorem dX6_called_2 : decode cX6_called 2 = .ok (.getfield 357, 3) := by decide +kernel
theorem dX6_called_5 : decode cX6_called 5 = .ok (.iconst 1, 1) := by decide +kernel
theorem dX6_called_6 : decode cX6_called 6 = .ok (.iadd, 1) := by decide +kernel
theorem dX6_called_7 : decode cX6_called 7 = .ok (.putfield 357, 3) := by decide +kernel
theorem dX6_called_10 : decode cX6_called 10 = .ok (.iload_n 1, 1) := by decide +kernel
theorem dX6_called_11 : decode cX6_called 11 = .ok (.lload_n 2, 1) := by decide +kernel
theorem dX6_called_12 : decode cX6_called 12 = .ok (.lload 4, 2) := by decide +kernel
theorem dX6_called_14 : decode cX6_called 14 = .ok (.invokestatic 281, 3) := by decide +kernel
theorem dX6_called_17 : decode cX6_called 17 = .ok (.lreturn, 1) := by decide +kernel
set_option maxRecDepth 100000 in
set_option maxHeartbeats 4000000 in
theorem d_X6_called (l : Launch) (D : va_G) (cy : Nat → ClassId) (N0 : Nat) (h : qH) (x sl bl kr vr : Nat) (hm ca mv ed : Int32) (w : Nat) (x0 c0 : Int64) (hT : h x = some (.inr (6, [.int hm, .ref sl, .ref bl, .ref kr, .ref vr, .int ca, .int mv, .int ed]))) (hw : w ≤ 6) : qC l D cy N0 yX6_called cX6_called 6 (some .long) 9 150 (if xFn w c0 x0 = none then 1 else 0) (if xFn w c0 x0 = none then 6 else 0) [.ref x, .int (nI w), .long x0, .long c0] h (fun v h' => ∃ r, xFn w c0 x0 = some r ∧ v = some (.long r) ∧ h' = qs h x (.inr (6, [.int hm, .ref sl, .ref bl, .ref kr, .ref vr, .int (ca + nI 1), .int mv, .int ed]))) (fun E h' => E = "java/lang/ArithmeticException" ∧ xFn w c0 x0 = none ∧ h' = qs h x (.inr (6, [.int hm, .ref sl, .ref bl, .ref kr, .ref vr, .int (ca + nI 1), .int mv, .int ed]))) := by
  refine q_ofW (by decide) (by exact Nat.le_of_ble_eq_true rfl) ?_
  intro p e s m below meth c ls C hP hl
  have hx := C.1
  have hb := C.2.1
  have hS : va_S (qA N0) s.heap s.heap [] := va_S.rf
  have hl : lv_has ls 6 [(0, .ref x), (1, .int (nI w)), (2, .long x0), (4, .long c0)] := hl
  refine lv_aload_n hx hb dX6_called_0 rfl (lv_at hl 0 rfl) ?_
  refine lv_dup hx hb dX6_called_1 rfl ?_
  refine q_get C hP hT rfl inX6 5 (by decide) g73 rfl dX6_called_2 ?_
  refine lv_iconst (v := nI 1) hx hb dX6_called_5 (by decide) ?_
  refine lv_iadd hx hb dX6_called_6 ?_
  refine q_put C hP hS hT rfl inX6 tyX6 tyX6_ok nmX6 5 (by decide) g73 rfl rfl rfl (Nat.le_of_ble_eq_true rfl) dX6_called_7 (fun H locs hP hS => ?_)
  replace hT : (qs h x (.inr (6, [.int hm, .ref sl, .ref bl, .ref kr, .ref vr, .int (ca + (nI 1)), .int mv, .int ed]))) x = some (.inr (6, [.int hm, .ref sl, .ref bl, .ref kr, .ref vr, .int (ca + (nI 1)), .int mv, .int ed])) := qs_self
  replace hP : qP D N0 (qs h x (.inr (6, [.int hm, .ref sl, .ref bl, .ref kr, .ref vr, .int (ca + (nI 1)), .int mv, .int ed]))) H := hP
  refine lv_iload_n hx hb dX6_called_10 rfl (lv_at hl 1 rfl) ?_
  refine lv_lload_n hx hb dX6_called_11 rfl (lv_at hl 2 rfl) ?_
  refine lv_lload hx hb dX6_called_12 (lv_at hl 3 rfl) ?_
  refine q_callS (rest := []) C (d_X6_applied l D cy N0 (qs h x (.inr (6, [.int hm, .ref sl, .ref bl, .ref kr, .ref vr, .int (ca + (nI 1)), .int mv, .int ed]))) w x0 c0 hw) kX6_applied g650 g651 hP hS (by first | decide | omega) hl.1 rfl (by decide) (by first | decide | omega) dX6_called_14 (fun q ce E h' H1 locs1 hE hP hS hc1 hc2 hc3 => by obtain ⟨rfl, rfl, hz9⟩ := hE; exact q_out C hP hS hc1 hc2 hc3 ⟨rfl, hz9, rfl⟩ (by omega)) (fun v hh1 H locs hq hP hS => ?_)
  obtain ⟨r9, er9, rfl, rfl⟩ := hq
  exact q_lret C hP hS ⟨r9, er9, rfl, rfl⟩ (by omega) dX6_called_17
theorem dX6_tested_0 : decode cX6_tested 0 = .ok (.aload_n 0, 1) := by decide +kernel
theorem dX6_tested_1 : decode cX6_tested 1 = .ok (.dup, 1) := by decide +kernel
theorem dX6_tested_2 : decode cX6_tested 2 = .ok (.getfield 357, 3) := by decide +kernel
theorem dX6_tested_5 : decode cX6_tested 5 = .ok (.iconst 1, 1) := by decide +kernel
theorem dX6_tested_6 : decode cX6_tested 6 = .ok (.iadd, 1) := by decide +kernel
theorem dX6_tested_7 : decode cX6_tested 7 = .ok (.putfield 357, 3) := by decide +kernel
theorem dX6_tested_10 : decode cX6_tested 10 = .ok (.iload_n 1, 1) := by decide +kernel
theorem dX6_tested_11 : decode cX6_tested 11 = .ok (.lload_n 2, 1) := by decide +kernel
theorem dX6_tested_12 : decode cX6_tested 12 = .ok (.lload 4, 2) := by decide +kernel
theorem dX6_tested_14 : decode cX6_tested 14 = .ok (.invokestatic 443, 3) := by decide +kernel
theorem dX6_tested_17 : decode cX6_tested 17 = .ok (.ireturn, 1) := by decide +kernel
set_option maxRecDepth 100000 in
set_option maxHeartbeats 4000000 in
theorem d_X6_tested (l : Launch) (D : va_G) (cy : Nat → ClassId) (N0 : Nat) (h : qH) (x sl bl kr vr : Nat) (hm ca mv ed : Int32) (w : Nat) (x0 c0 : Int64) (hT : h x = some (.inr (6, [.int hm, .ref sl, .ref bl, .ref kr, .ref vr, .int ca, .int mv, .int ed]))) (hw : w ≤ 4) : qC l D cy N0 yX6_tested cX6_tested 6 (some .boolean) 9 150 (if xTs w c0 x0 = none then 1 else 0) (if xTs w c0 x0 = none then 6 else 0) [.ref x, .int (nI w), .long x0, .long c0] h (fun v h' => ∃ r, xTs w c0 x0 = some r ∧ v = some (.int (nI (if r = true then 1 else 0))) ∧ h' = qs h x (.inr (6, [.int hm, .ref sl, .ref bl, .ref kr, .ref vr, .int (ca + nI 1), .int mv, .int ed]))) (fun E h' => E = "java/lang/ArithmeticException" ∧ xTs w c0 x0 = none ∧ h' = qs h x (.inr (6, [.int hm, .ref sl, .ref bl, .ref kr, .ref vr, .int (ca + nI 1), .int mv, .int ed]))) := by
  refine q_ofW (by decide) (by exact Nat.le_of_ble_eq_true rfl) ?_
  intro p e s m below meth c ls C hP hl
  have hx := C.1
  have hb := C.2.1
  have hS : va_S (qA N0) s.heap s.heap [] := va_S.rf
  have hl : lv_has ls 6 [(0, .ref x), (1, .int (nI w)), (2, .long x0), (4, .long c0)] := hl
  refine lv_aload_n hx hb dX6_tested_0 rfl (lv_at hl 0 rfl) ?_
  refine lv_dup hx hb dX6_tested_1 rfl ?_
  refine q_get C hP hT rfl inX6 5 (by decide) g73 rfl dX6_tested_2 ?_
  refine lv_iconst (v := nI 1) hx hb dX6_tested_5 (by decide) ?_
  refine lv_iadd hx hb dX6_tested_6 ?_
  refine q_put C hP hS hT rfl inX6 tyX6 tyX6_ok nmX6 5 (by decide) g73 rfl rfl rfl (Nat.le_of_ble_eq_true rfl) dX6_tested_7 (fun H locs hP hS => ?_)
  replace hT : (qs h x (.inr (6, [.int hm, .ref sl, .ref bl, .ref kr, .ref vr, .int (ca + (nI 1)), .int mv, .int ed]))) x = some (.inr (6, [.int hm, .ref sl, .ref bl, .ref kr, .ref vr, .int (ca + (nI 1)), .int mv, .int ed])) := qs_self
  replace hP : qP D N0 (qs h x (.inr (6, [.int hm, .ref sl, .ref bl, .ref kr, .ref vr, .int (ca + (nI 1)), .int mv, .int ed]))) H := hP
  refine lv_iload_n hx hb dX6_tested_10 rfl (lv_at hl 1 rfl) ?_
  refine lv_lload_n hx hb dX6_tested_11 rfl (lv_at hl 2 rfl) ?_
  refine lv_lload hx hb dX6_tested_12 (lv_at hl 3 rfl) ?_
  refine q_callS (rest := []) C (d_X6_passes l D cy N0 (qs h x (.inr (6, [.int hm, .ref sl, .ref bl, .ref kr, .ref vr, .int (ca + (nI 1)), .int mv, .int ed]))) w x0 c0 hw) kX6_passes g695 g696 hP hS (by first | decide | omega) hl.1 rfl (by decide) (by first | decide | omega) dX6_tested_14 (fun q ce E h' H1 locs1 hE hP hS hc1 hc2 hc3 => by obtain ⟨rfl, rfl, hz9⟩ := hE; exact q_out C hP hS hc1 hc2 hc3 ⟨rfl, hz9, rfl⟩ (by omega)) (fun v hh1 H locs hq hP hS => ?_)
  obtain ⟨r9, er9, rfl, rfl⟩ := hq
  exact q_zret C hP hS (by cases r9 <;> first | exact Or.inl rfl | exact Or.inr rfl) ⟨r9, er9, rfl, rfl⟩ (by omega) dX6_tested_17
