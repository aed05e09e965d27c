theorem zmm {k : Int64} : (-9223372036854775808 : Int64).toInt ≤ k.toInt ∧ k.toInt ≤ (9223372036854775807 : Int64).toInt := by
  have h1 := Int64.le_toInt k
  have h2 := Int64.toInt_lt k
  have e1 : (-9223372036854775808 : Int64).toInt = -9223372036854775808 := by decide
  have e2 : (9223372036854775807 : Int64).toInt = 9223372036854775807 := by decide
  rw [e1, e2]
  omega
theorem dX2_isSound_0 : decode cX2_isSound 0 = .ok (.aload_n 0, 1) := by decide +kernel
theorem dX2_isSound_1 : decode cX2_isSound 1 = .ok (.invokevirtual 54, 3) := by decide +kernel
theorem dX2_isSound_4 : decode cX2_isSound 4 = .ok (.sipush 1000, 3) := by decide +kernel
theorem dX2_isSound_7 : decode cX2_isSound 7 = .ok (.if_icmp .gt 12, 3) := by decide +kernel
theorem dX2_isSound_10 : decode cX2_isSound 10 = .ok (.aload_n 0, 1) := by decide +kernel
theorem dX2_isSound_11 : decode cX2_isSound 11 = .ok (.getfield 31, 3) := by decide +kernel
theorem dX2_isSound_14 : decode cX2_isSound 14 = .ok (.bipush 100, 2) := by decide +kernel
theorem dX2_isSound_16 : decode cX2_isSound 16 = .ok (.if_icmp .le 5, 3) := by decide +kernel
theorem dX2_isSound_21 : decode cX2_isSound 21 = .ok (.aload_n 0, 1) := by decide +kernel
theorem dX2_isSound_22 : decode cX2_isSound 22 = .ok (.getfield 15, 3) := by decide +kernel
theorem dX2_isSound_25 : decode cX2_isSound 25 = .ok (.invokestatic 58, 3) := by decide +kernel
theorem dX2_isSound_28 : decode cX2_isSound 28 = .ok (.ifCond .eq 54, 3) := by decide +kernel
theorem dX2_isSound_31 : decode cX2_isSound 31 = .ok (.aload_n 0, 1) := by decide +kernel
theorem dX2_isSound_32 : decode cX2_isSound 32 = .ok (.getfield 9, 3) := by decide +kernel
theorem dX2_isSound_35 : decode cX2_isSound 35 = .ok (.iconst 3, 1) := by decide +kernel
theorem dX2_isSound_36 : decode cX2_isSound 36 = .ok (.if_icmp .ne 19, 3) := by decide +kernel
theorem dX2_isSound_39 : decode cX2_isSound 39 = .ok (.aload_n 0, 1) := by decide +kernel
theorem dX2_isSound_40 : decode cX2_isSound 40 = .ok (.getfield 15, 3) := by decide +kernel
theorem dX2_isSound_43 : decode cX2_isSound 43 = .ok (.ldc2_w 64, 3) := by decide +kernel
theorem dX2_isSound_46 : decode cX2_isSound 46 = .ok (.ldc2_w 66, 3) := by decide +kernel
theorem dX2_isSound_49 : decode cX2_isSound 49 = .ok (.invokestatic 68, 3) := by decide +kernel
theorem dX2_isSound_52 : decode cX2_isSound 52 = .ok (.ifCond .eq 30, 3) := by decide +kernel
theorem dX2_isSound_55 : decode cX2_isSound 55 = .ok (.aload_n 0, 1) := by decide +kernel
theorem dX2_isSound_56 : decode cX2_isSound 56 = .ok (.getfield 19, 3) := by decide +kernel
theorem dX2_isSound_59 : decode cX2_isSound 59 = .ok (.iconst 0, 1) := by decide +kernel
theorem dX2_isSound_60 : decode cX2_isSound 60 = .ok (.iload_n 1, 1) := by decide +kernel
theorem dX2_isSound_61 : decode cX2_isSound 61 = .ok (.iconst 0, 1) := by decide +kernel
theorem dX2_isSound_62 : decode cX2_isSound 62 = .ok (.invokestatic 72, 3) := by decide +kernel
theorem dX2_isSound_65 : decode cX2_isSound 65 = .ok (.ifCond .eq 17, 3) := by decide +kernel
theorem dX2_isSound_68 : decode cX2_isSound 68 = .ok (.aload_n 0, 1) := by decide +kernel
theorem dX2_isSound_69 : decode cX2_isSound 69 = .ok (.getfield 23, 3) := by decide +kernel
theorem dX2_isSound_72 : decode cX2_isSound 72 = .ok (.invokestatic 75, 3) := by decide +kernel
theorem dX2_isSound_75 : decode cX2_isSound 75 = .ok (.ifCond .eq 7, 3) := by decide +kernel
theorem dX2_isSound_78 : decode cX2_isSound 78 = .ok (.iconst 1, 1) := by decide +kernel
theorem dX2_isSound_79 : decode cX2_isSound 79 = .ok (.goto 4, 3) := by decide +kernel
theorem dX2_isSound_83 : decode cX2_isSound 83 = .ok (.ireturn, 1) := by decide +kernel
set_option maxRecDepth 100000 in
set_option maxHeartbeats 4000000 in
theorem z_hsound (l : Launch) (D : va_G) (cy : Nat → ClassId) (N0 : Nat) (h : qH) (Im Ok : Nat → Prop) (mk gr : Int32) (g : Nat → Nat) (s9 : qSlot) (a : Nat) (x1 x2 x3 x4 : Option Nat) (dv : Int32) (hA : h a = some (.inr (2, [.int s9.1, va_rf x1, va_rf x2, va_rf x3, va_rf x4, .int dv]))) (hv : zV cy h Im Ok mk g s9 x1 x2 x3 x4 dv) (hI : qOk s9.1 s9.2.1) (hL : s9.2.1.length ≤ 1000) (hD : s9.2.2.2 ≤ 100) (hAl : (s9.1 = 1 ∨ s9.1 = 2) → ∀ k, xAl gr s9.2.1 k ≤ 16) (hmk : qMk gr = mk) : qC l D cy N0 yX2_isSound cX2_isSound 2 (some .boolean) 40 900 0 0 [.ref a, .int mk] h (fun v h' => v = some (.int (nI 1)) ∧ h = h') (fun E h' => False) := by
  refine q_ofW (by decide) (by exact Nat.le_of_ble_eq_true rfl) ?_
  intro p e s m below meth c ls C hP hl
  have hx := C.1
  have hb := C.2.1
  have hS : va_S (qA N0) s.heap s.heap [] := va_S.rf
  have hl : lv_has ls 2 [(0, .ref a), (1, .int mk)] := hl
  obtain ⟨t1, t2, t3, f1, f2, f3, et⟩ := hv.size
  have hzl : zAm s9 ≤ 1000 := by unfold zAm; split <;> omega
  rcases hv with ⟨hk, rfl, rfl, rfl, rfl, n9, hb9⟩ | ⟨hk, rfl, rfl, rfl, rfl, n9, hb9⟩ | ⟨hk, rfl, rfl, rfl, rfl, n9, M9, hp9, hpm⟩ | ⟨hk12, rfl, rfl, rfl, rfl, hR⟩ | ⟨hk, rfl, rfl, rfl, ex4, rfl⟩
  · have hlm : (s9.2.1.map (fun p => ((0 : Int64), p.1))).length = s9.2.1.length := List.length_map ..
    have hn14 : n9 ≤ 14 := hb9.h14 (by omega)
    rcases hk with hk | hk
    · have hk9 : s9.1 = nI 0 := hk
      rw [hk9] at hA
      refine lv_aload_n hx hb dX2_isSound_0 rfl (lv_at hl 0 rfl) ?_
      refine q_callV (rest := []) C (c_X2_amount l D cy N0 h a (nI 0) (nI 0) t1 t2 t3 x1 none none none hA f1 f2 f3) kX2_amount g1092 g223 rfl g224 g10 hP hS hA (by first | decide | omega) hl.1 rfl (by decide) (by first | decide | omega) dX2_isSound_1 (fun q ce E h' H1 locs1 hE => hE.elim) (fun v hh1 H locs hq hP hS => ?_)
      obtain ⟨rfl, rfl⟩ := hq
      rw [← et]
      refine lv_sipush (v := nI 1000) hx hb dX2_isSound_4 (by decide) ?_
      refine lv_icmp_gt (tgt := 19) hx hb dX2_isSound_7 (by decide) (fun c7 => ?_) (fun c7 => ?_)
      · replace c7 : 1000 < (zAm s9) := (nI_ltI (a := 1000) (b := (zAm s9)) (by omega) (by omega)).mp c7
        exfalso; omega
      · replace c7 : ¬ 1000 < (zAm s9) := fun zq => c7 ((nI_ltI (a := 1000) (b := (zAm s9)) (by omega) (by omega)).mpr zq)
        refine lv_aload_n hx hb dX2_isSound_10 rfl (lv_at hl 0 rfl) ?_
        refine q_get C hP hA rfl inX2 5 (by decide) g203 rfl dX2_isSound_11 ?_
        refine lv_bipush (v := nI 100) hx hb dX2_isSound_14 (by decide) ?_
        refine lv_icmp_le (tgt := 21) hx hb dX2_isSound_16 (by decide) (fun c16 => ?_) (fun c16 => ?_)
        · replace c16 : 0 ≤ 100 := (nI_leI (a := 0) (b := 100) (by omega) (by omega)).mp c16
          refine lv_aload_n hx hb dX2_isSound_21 rfl (lv_at hl 0 rfl) ?_
          refine q_get C hP hA rfl inX2 1 (by decide) g193 rfl dX2_isSound_22 ?_
          refine q_callSN (host := RX6) (rest := []) C (c_X0_isSound l D cy N0 (n9 + 1) h x1 n9 (s9.2.1.map (fun p => ((0 : Int64), p.1))) hb9 (by omega) (by omega)) kX0_isSound (by decide +kernel) g1094 hP hS (by first | decide | omega) hl.1 rfl (by decide) (by first | decide | omega) dX2_isSound_25 (fun v hh2 H locs hq hP hS => ?_)
          obtain ⟨rfl, rfl⟩ := hq
          refine lv_if_eq (tgt := 82) hx hb dX2_isSound_28 (by decide) (fun c28 => ?_) (fun c28 => ?_)
          · replace c28 : 1 = 0 := (nI_eq (a := 1) (b := 0) (by omega) (by omega)).mp c28
            exfalso; omega
          · replace c28 : ¬ 1 = 0 := fun zq => c28 ((nI_eq (a := 1) (b := 0) (by omega) (by omega)).mpr zq)
            refine lv_aload_n hx hb dX2_isSound_31 rfl (lv_at hl 0 rfl) ?_
            refine q_get C hP hA rfl inX2 0 (by decide) g190 rfl dX2_isSound_32 ?_
            refine lv_iconst (v := nI 3) hx hb dX2_isSound_35 (by decide) ?_
            refine lv_icmp_ne (tgt := 55) hx hb dX2_isSound_36 (by decide) (fun c36 => ?_) (fun c36 => ?_)
            · replace c36 : ¬ 0 = 3 := fun zq => c36 ((nI_eq (a := 0) (b := 3) (by omega) (by omega)).mpr zq)
              refine lv_aload_n hx hb dX2_isSound_55 rfl (lv_at hl 0 rfl) ?_
              refine q_get C hP hA rfl inX2 2 (by decide) g196 rfl dX2_isSound_56 ?_
              refine lv_iconst (v := nI 0) hx hb dX2_isSound_59 (by decide) ?_
              refine lv_iload_n hx hb dX2_isSound_60 rfl (lv_at hl 1 rfl) ?_
              refine lv_iconst (v := nI 0) hx hb dX2_isSound_61 (by decide) ?_
              refine q_callSN (host := RX6) (rest := []) C (c_X3_isSoundN l D cy N0 h 0 mk 0) kX3_isSound (by decide +kernel) g1105 hP hS (by first | decide | omega) hl.1 rfl (by decide) (by first | decide | omega) dX2_isSound_62 (fun v hh3 H locs hq hP hS => ?_)
              obtain ⟨rfl, rfl⟩ := hq
              refine lv_if_eq (tgt := 82) hx hb dX2_isSound_65 (by decide) (fun c65 => ?_) (fun c65 => ?_)
              · replace c65 : 1 = 0 := (nI_eq (a := 1) (b := 0) (by omega) (by omega)).mp c65
                exfalso; omega
              · replace c65 : ¬ 1 = 0 := fun zq => c65 ((nI_eq (a := 1) (b := 0) (by omega) (by omega)).mpr zq)
                refine lv_aload_n hx hb dX2_isSound_68 rfl (lv_at hl 0 rfl) ?_
                refine q_get C hP hA rfl inX2 3 (by decide) g199 rfl dX2_isSound_69 ?_
                refine q_callSN (host := RX6) (rest := []) C (c_X4_isSound l D cy N0 11 h none 0 [] 10 qPi.nil (by decide) (by decide)) kX4_isSound (by decide +kernel) g1121 hP hS (by first | decide | omega) hl.1 rfl (by decide) (by first | decide | omega) dX2_isSound_72 (fun v hh4 H locs hq hP hS => ?_)
                obtain ⟨rfl, rfl⟩ := hq
                refine lv_if_eq (tgt := 82) hx hb dX2_isSound_75 (by decide) (fun c75 => ?_) (fun c75 => ?_)
                · replace c75 : 1 = 0 := (nI_eq (a := 1) (b := 0) (by omega) (by omega)).mp c75
                  exfalso; omega
                · replace c75 : ¬ 1 = 0 := fun zq => c75 ((nI_eq (a := 1) (b := 0) (by omega) (by omega)).mpr zq)
                  refine lv_iconst (v := nI 1) hx hb dX2_isSound_78 (by decide) ?_
                  refine lv_goto (tgt := 83) hx hb dX2_isSound_79 (by decide) ?_
                  exact q_zret C hP hS (Or.inr rfl) ⟨rfl, rfl⟩ (by omega) dX2_isSound_83
            · replace c36 : 0 = 3 := (nI_eq (a := 0) (b := 3) (by omega) (by omega)).mp c36
              exfalso; omega
        · replace c16 : ¬ 0 ≤ 100 := fun zq => c16 ((nI_leI (a := 0) (b := 100) (by omega) (by omega)).mpr zq)
          exfalso; omega
    · have hk9 : s9.1 = nI 4 := hk
      rw [hk9] at hA
      refine lv_aload_n hx hb dX2_isSound_0 rfl (lv_at hl 0 rfl) ?_
      refine q_callV (rest := []) C (c_X2_amount l D cy N0 h a (nI 4) (nI 0) t1 t2 t3 x1 none none none hA f1 f2 f3) kX2_amount g1092 g223 rfl g224 g10 hP hS hA (by first | decide | omega) hl.1 rfl (by decide) (by first | decide | omega) dX2_isSound_1 (fun q ce E h' H1 locs1 hE => hE.elim) (fun v hh5 H locs hq hP hS => ?_)
      obtain ⟨rfl, rfl⟩ := hq
      rw [← et]
      refine lv_sipush (v := nI 1000) hx hb dX2_isSound_4 (by decide) ?_
      refine lv_icmp_gt (tgt := 19) hx hb dX2_isSound_7 (by decide) (fun c7 => ?_) (fun c7 => ?_)
      · replace c7 : 1000 < (zAm s9) := (nI_ltI (a := 1000) (b := (zAm s9)) (by omega) (by omega)).mp c7
        exfalso; omega
      · replace c7 : ¬ 1000 < (zAm s9) := fun zq => c7 ((nI_ltI (a := 1000) (b := (zAm s9)) (by omega) (by omega)).mpr zq)
        refine lv_aload_n hx hb dX2_isSound_10 rfl (lv_at hl 0 rfl) ?_
        refine q_get C hP hA rfl inX2 5 (by decide) g203 rfl dX2_isSound_11 ?_
        refine lv_bipush (v := nI 100) hx hb dX2_isSound_14 (by decide) ?_
        refine lv_icmp_le (tgt := 21) hx hb dX2_isSound_16 (by decide) (fun c16 => ?_) (fun c16 => ?_)
        · replace c16 : 0 ≤ 100 := (nI_leI (a := 0) (b := 100) (by omega) (by omega)).mp c16
          refine lv_aload_n hx hb dX2_isSound_21 rfl (lv_at hl 0 rfl) ?_
          refine q_get C hP hA rfl inX2 1 (by decide) g193 rfl dX2_isSound_22 ?_
          refine q_callSN (host := RX6) (rest := []) C (c_X0_isSound l D cy N0 (n9 + 1) h x1 n9 (s9.2.1.map (fun p => ((0 : Int64), p.1))) hb9 (by omega) (by omega)) kX0_isSound (by decide +kernel) g1094 hP hS (by first | decide | omega) hl.1 rfl (by decide) (by first | decide | omega) dX2_isSound_25 (fun v hh6 H locs hq hP hS => ?_)
          obtain ⟨rfl, rfl⟩ := hq
          refine lv_if_eq (tgt := 82) hx hb dX2_isSound_28 (by decide) (fun c28 => ?_) (fun c28 => ?_)
          · replace c28 : 1 = 0 := (nI_eq (a := 1) (b := 0) (by omega) (by omega)).mp c28
            exfalso; omega
          · replace c28 : ¬ 1 = 0 := fun zq => c28 ((nI_eq (a := 1) (b := 0) (by omega) (by omega)).mpr zq)
            refine lv_aload_n hx hb dX2_isSound_31 rfl (lv_at hl 0 rfl) ?_
            refine q_get C hP hA rfl inX2 0 (by decide) g190 rfl dX2_isSound_32 ?_
            refine lv_iconst (v := nI 3) hx hb dX2_isSound_35 (by decide) ?_
            refine lv_icmp_ne (tgt := 55) hx hb dX2_isSound_36 (by decide) (fun c36 => ?_) (fun c36 => ?_)
            · replace c36 : ¬ 4 = 3 := fun zq => c36 ((nI_eq (a := 4) (b := 3) (by omega) (by omega)).mpr zq)
              refine lv_aload_n hx hb dX2_isSound_55 rfl (lv_at hl 0 rfl) ?_
              refine q_get C hP hA rfl inX2 2 (by decide) g196 rfl dX2_isSound_56 ?_
              refine lv_iconst (v := nI 0) hx hb dX2_isSound_59 (by decide) ?_
              refine lv_iload_n hx hb dX2_isSound_60 rfl (lv_at hl 1 rfl) ?_
              refine lv_iconst (v := nI 0) hx hb dX2_isSound_61 (by decide) ?_
              refine q_callSN (host := RX6) (rest := []) C (c_X3_isSoundN l D cy N0 h 0 mk 0) kX3_isSound (by decide +kernel) g1105 hP hS (by first | decide | omega) hl.1 rfl (by decide) (by first | decide | omega) dX2_isSound_62 (fun v hh7 H locs hq hP hS => ?_)
              obtain ⟨rfl, rfl⟩ := hq
              refine lv_if_eq (tgt := 82) hx hb dX2_isSound_65 (by decide) (fun c65 => ?_) (fun c65 => ?_)
              · replace c65 : 1 = 0 := (nI_eq (a := 1) (b := 0) (by omega) (by omega)).mp c65
                exfalso; omega
              · replace c65 : ¬ 1 = 0 := fun zq => c65 ((nI_eq (a := 1) (b := 0) (by omega) (by omega)).mpr zq)
                refine lv_aload_n hx hb dX2_isSound_68 rfl (lv_at hl 0 rfl) ?_
                refine q_get C hP hA rfl inX2 3 (by decide) g199 rfl dX2_isSound_69 ?_
                refine q_callSN (host := RX6) (rest := []) C (c_X4_isSound l D cy N0 11 h none 0 [] 10 qPi.nil (by decide) (by decide)) kX4_isSound (by decide +kernel) g1121 hP hS (by first | decide | omega) hl.1 rfl (by decide) (by first | decide | omega) dX2_isSound_72 (fun v hh8 H locs hq hP hS => ?_)
                obtain ⟨rfl, rfl⟩ := hq
                refine lv_if_eq (tgt := 82) hx hb dX2_isSound_75 (by decide) (fun c75 => ?_) (fun c75 => ?_)
                · replace c75 : 1 = 0 := (nI_eq (a := 1) (b := 0) (by omega) (by omega)).mp c75
                  exfalso; omega
                · replace c75 : ¬ 1 = 0 := fun zq => c75 ((nI_eq (a := 1) (b := 0) (by omega) (by omega)).mpr zq)
                  refine lv_iconst (v := nI 1) hx hb dX2_isSound_78 (by decide) ?_
                  refine lv_goto (tgt := 83) hx hb dX2_isSound_79 (by decide) ?_
                  exact q_zret C hP hS (Or.inr rfl) ⟨rfl, rfl⟩ (by omega) dX2_isSound_83
            · replace c36 : 4 = 3 := (nI_eq (a := 4) (b := 3) (by omega) (by omega)).mp c36
              exfalso; omega
        · replace c16 : ¬ 0 ≤ 100 := fun zq => c16 ((nI_leI (a := 0) (b := 100) (by omega) (by omega)).mpr zq)
          exfalso; omega
  · have hn14 : n9 ≤ 14 := hb9.h14 (by omega)
    have hso : qSo s9.2.1 := qSo_of (hI.1 (Or.inl hk)) (hI.2.1 (Or.inr (Or.inr hk)))
    have hk9 : s9.1 = nI 3 := hk
    rw [hk9] at hA
    refine lv_aload_n hx hb dX2_isSound_0 rfl (lv_at hl 0 rfl) ?_
    refine q_callV (rest := []) C (c_X2_amount l D cy N0 h a (nI 3) (nI 0) t1 t2 t3 x1 none none none hA f1 f2 f3) kX2_amount g1092 g223 rfl g224 g10 hP hS hA (by first | decide | omega) hl.1 rfl (by decide) (by first | decide | omega) dX2_isSound_1 (fun q ce E h' H1 locs1 hE => hE.elim) (fun v hh9 H locs hq hP hS => ?_)
    obtain ⟨rfl, rfl⟩ := hq
    rw [← et]
    refine lv_sipush (v := nI 1000) hx hb dX2_isSound_4 (by decide) ?_
    refine lv_icmp_gt (tgt := 19) hx hb dX2_isSound_7 (by decide) (fun c7 => ?_) (fun c7 => ?_)
    · replace c7 : 1000 < (zAm s9) := (nI_ltI (a := 1000) (b := (zAm s9)) (by omega) (by omega)).mp c7
      exfalso; omega
    · replace c7 : ¬ 1000 < (zAm s9) := fun zq => c7 ((nI_ltI (a := 1000) (b := (zAm s9)) (by omega) (by omega)).mpr zq)
      refine lv_aload_n hx hb dX2_isSound_10 rfl (lv_at hl 0 rfl) ?_
      refine q_get C hP hA rfl inX2 5 (by decide) g203 rfl dX2_isSound_11 ?_
      refine lv_bipush (v := nI 100) hx hb dX2_isSound_14 (by decide) ?_
      refine lv_icmp_le (tgt := 21) hx hb dX2_isSound_16 (by decide) (fun c16 => ?_) (fun c16 => ?_)
      · replace c16 : 0 ≤ 100 := (nI_leI (a := 0) (b := 100) (by omega) (by omega)).mp c16
        refine lv_aload_n hx hb dX2_isSound_21 rfl (lv_at hl 0 rfl) ?_
        refine q_get C hP hA rfl inX2 1 (by decide) g193 rfl dX2_isSound_22 ?_
        refine q_callSN (host := RX6) (rest := []) C (c_X0_isSound l D cy N0 (n9 + 1) h x1 n9 s9.2.1 hb9 (by omega) (by omega)) kX0_isSound (by decide +kernel) g1094 hP hS (by first | decide | omega) hl.1 rfl (by decide) (by first | decide | omega) dX2_isSound_25 (fun v hh10 H locs hq hP hS => ?_)
        obtain ⟨rfl, rfl⟩ := hq
        refine lv_if_eq (tgt := 82) hx hb dX2_isSound_28 (by decide) (fun c28 => ?_) (fun c28 => ?_)
        · replace c28 : 1 = 0 := (nI_eq (a := 1) (b := 0) (by omega) (by omega)).mp c28
          exfalso; omega
        · replace c28 : ¬ 1 = 0 := fun zq => c28 ((nI_eq (a := 1) (b := 0) (by omega) (by omega)).mpr zq)
          refine lv_aload_n hx hb dX2_isSound_31 rfl (lv_at hl 0 rfl) ?_
          refine q_get C hP hA rfl inX2 0 (by decide) g190 rfl dX2_isSound_32 ?_
          refine lv_iconst (v := nI 3) hx hb dX2_isSound_35 (by decide) ?_
          refine lv_icmp_ne (tgt := 55) hx hb dX2_isSound_36 (by decide) (fun c36 => ?_) (fun c36 => ?_)
          · replace c36 : ¬ 3 = 3 := fun zq => c36 ((nI_eq (a := 3) (b := 3) (by omega) (by omega)).mpr zq)
            exfalso; omega
          · replace c36 : 3 = 3 := (nI_eq (a := 3) (b := 3) (by omega) (by omega)).mp c36
            refine lv_aload_n hx hb dX2_isSound_39 rfl (lv_at hl 0 rfl) ?_
            refine q_get C hP hA rfl inX2 1 (by decide) g193 rfl dX2_isSound_40 ?_
            refine lv_ldc2 hx hb C.2.2.2.2.1 (C.2.2.2.2.2.1 _ g1098) dX2_isSound_43 ?_
            refine lv_ldc2 hx hb C.2.2.2.2.1 (C.2.2.2.2.2.1 _ g1099) dX2_isSound_46 ?_
            refine q_callSN (host := RX6) (rest := []) C (c_X0_isSorted l D cy N0 (n9 + 1) h x1 n9 s9.2.1 (-9223372036854775808) 9223372036854775807 hb9 (by omega) hso (fun p _ => zmm) (by omega)) kX0_isSorted (by decide +kernel) g1101 hP hS (by first | decide | omega) hl.1 rfl (by decide) (by first | decide | omega) dX2_isSound_49 (fun v hh11 H locs hq hP hS => ?_)
            obtain ⟨rfl, rfl⟩ := hq
            refine lv_if_eq (tgt := 82) hx hb dX2_isSound_52 (by decide) (fun c52 => ?_) (fun c52 => ?_)
            · replace c52 : 1 = 0 := (nI_eq (a := 1) (b := 0) (by omega) (by omega)).mp c52
              exfalso; omega
            · replace c52 : ¬ 1 = 0 := fun zq => c52 ((nI_eq (a := 1) (b := 0) (by omega) (by omega)).mpr zq)
              refine lv_aload_n hx hb dX2_isSound_55 rfl (lv_at hl 0 rfl) ?_
              refine q_get C hP hA rfl inX2 2 (by decide) g196 rfl dX2_isSound_56 ?_
              refine lv_iconst (v := nI 0) hx hb dX2_isSound_59 (by decide) ?_
              refine lv_iload_n hx hb dX2_isSound_60 rfl (lv_at hl 1 rfl) ?_
              refine lv_iconst (v := nI 0) hx hb dX2_isSound_61 (by decide) ?_
              refine q_callSN (host := RX6) (rest := []) C (c_X3_isSoundN l D cy N0 h 0 mk 0) kX3_isSound (by decide +kernel) g1105 hP hS (by first | decide | omega) hl.1 rfl (by decide) (by first | decide | omega) dX2_isSound_62 (fun v hh12 H locs hq hP hS => ?_)
              obtain ⟨rfl, rfl⟩ := hq
              refine lv_if_eq (tgt := 82) hx hb dX2_isSound_65 (by decide) (fun c65 => ?_) (fun c65 => ?_)
              · replace c65 : 1 = 0 := (nI_eq (a := 1) (b := 0) (by omega) (by omega)).mp c65
                exfalso; omega
              · replace c65 : ¬ 1 = 0 := fun zq => c65 ((nI_eq (a := 1) (b := 0) (by omega) (by omega)).mpr zq)
                refine lv_aload_n hx hb dX2_isSound_68 rfl (lv_at hl 0 rfl) ?_
                refine q_get C hP hA rfl inX2 3 (by decide) g199 rfl dX2_isSound_69 ?_
                refine q_callSN (host := RX6) (rest := []) C (c_X4_isSound l D cy N0 11 h none 0 [] 10 qPi.nil (by decide) (by decide)) kX4_isSound (by decide +kernel) g1121 hP hS (by first | decide | omega) hl.1 rfl (by decide) (by first | decide | omega) dX2_isSound_72 (fun v hh13 H locs hq hP hS => ?_)
                obtain ⟨rfl, rfl⟩ := hq
                refine lv_if_eq (tgt := 82) hx hb dX2_isSound_75 (by decide) (fun c75 => ?_) (fun c75 => ?_)
                · replace c75 : 1 = 0 := (nI_eq (a := 1) (b := 0) (by omega) (by omega)).mp c75
                  exfalso; omega
                · replace c75 : ¬ 1 = 0 := fun zq => c75 ((nI_eq (a := 1) (b := 0) (by omega) (by omega)).mpr zq)
                  refine lv_iconst (v := nI 1) hx hb dX2_isSound_78 (by decide) ?_
                  refine lv_goto (tgt := 83) hx hb dX2_isSound_79 (by decide) ?_
                  exact q_zret C hP hS (Or.inr rfl) ⟨rfl, rfl⟩ (by omega) dX2_isSound_83
      · replace c16 : ¬ 0 ≤ 100 := fun zq => c16 ((nI_leI (a := 0) (b := 100) (by omega) (by omega)).mpr zq)
        exfalso; omega
  · have hk9 : s9.1 = nI 5 := hk
    rw [hk9] at hA
    refine lv_aload_n hx hb dX2_isSound_0 rfl (lv_at hl 0 rfl) ?_
    refine q_callV (rest := []) C (c_X2_amount l D cy N0 h a (nI 5) (nI 0) t1 t2 t3 none none x3 none hA f1 f2 f3) kX2_amount g1092 g223 rfl g224 g10 hP hS hA (by first | decide | omega) hl.1 rfl (by decide) (by first | decide | omega) dX2_isSound_1 (fun q ce E h' H1 locs1 hE => hE.elim) (fun v hh14 H locs hq hP hS => ?_)
    obtain ⟨rfl, rfl⟩ := hq
    rw [← et]
    refine lv_sipush (v := nI 1000) hx hb dX2_isSound_4 (by decide) ?_
    refine lv_icmp_gt (tgt := 19) hx hb dX2_isSound_7 (by decide) (fun c7 => ?_) (fun c7 => ?_)
    · replace c7 : 1000 < (zAm s9) := (nI_ltI (a := 1000) (b := (zAm s9)) (by omega) (by omega)).mp c7
      exfalso; omega
    · replace c7 : ¬ 1000 < (zAm s9) := fun zq => c7 ((nI_ltI (a := 1000) (b := (zAm s9)) (by omega) (by omega)).mpr zq)
      refine lv_aload_n hx hb dX2_isSound_10 rfl (lv_at hl 0 rfl) ?_
      refine q_get C hP hA rfl inX2 5 (by decide) g203 rfl dX2_isSound_11 ?_
      refine lv_bipush (v := nI 100) hx hb dX2_isSound_14 (by decide) ?_
      refine lv_icmp_le (tgt := 21) hx hb dX2_isSound_16 (by decide) (fun c16 => ?_) (fun c16 => ?_)
      · replace c16 : 0 ≤ 100 := (nI_leI (a := 0) (b := 100) (by omega) (by omega)).mp c16
        refine lv_aload_n hx hb dX2_isSound_21 rfl (lv_at hl 0 rfl) ?_
        refine q_get C hP hA rfl inX2 1 (by decide) g193 rfl dX2_isSound_22 ?_
        refine q_callSN (host := RX6) (rest := []) C (c_X0_isSound l D cy N0 1 h none 0 [] qBr.nil (by decide) (by decide)) kX0_isSound (by decide +kernel) g1094 hP hS (by first | decide | omega) hl.1 rfl (by decide) (by first | decide | omega) dX2_isSound_25 (fun v hh15 H locs hq hP hS => ?_)
        obtain ⟨rfl, rfl⟩ := hq
        refine lv_if_eq (tgt := 82) hx hb dX2_isSound_28 (by decide) (fun c28 => ?_) (fun c28 => ?_)
        · replace c28 : 1 = 0 := (nI_eq (a := 1) (b := 0) (by omega) (by omega)).mp c28
          exfalso; omega
        · replace c28 : ¬ 1 = 0 := fun zq => c28 ((nI_eq (a := 1) (b := 0) (by omega) (by omega)).mpr zq)
          refine lv_aload_n hx hb dX2_isSound_31 rfl (lv_at hl 0 rfl) ?_
          refine q_get C hP hA rfl inX2 0 (by decide) g190 rfl dX2_isSound_32 ?_
          refine lv_iconst (v := nI 3) hx hb dX2_isSound_35 (by decide) ?_
          refine lv_icmp_ne (tgt := 55) hx hb dX2_isSound_36 (by decide) (fun c36 => ?_) (fun c36 => ?_)
          · replace c36 : ¬ 5 = 3 := fun zq => c36 ((nI_eq (a := 5) (b := 3) (by omega) (by omega)).mpr zq)
            refine lv_aload_n hx hb dX2_isSound_55 rfl (lv_at hl 0 rfl) ?_
            refine q_get C hP hA rfl inX2 2 (by decide) g196 rfl dX2_isSound_56 ?_
            refine lv_iconst (v := nI 0) hx hb dX2_isSound_59 (by decide) ?_
            refine lv_iload_n hx hb dX2_isSound_60 rfl (lv_at hl 1 rfl) ?_
            refine lv_iconst (v := nI 0) hx hb dX2_isSound_61 (by decide) ?_
            refine q_callSN (host := RX6) (rest := []) C (c_X3_isSoundN l D cy N0 h 0 mk 0) kX3_isSound (by decide +kernel) g1105 hP hS (by first | decide | omega) hl.1 rfl (by decide) (by first | decide | omega) dX2_isSound_62 (fun v hh16 H locs hq hP hS => ?_)
            obtain ⟨rfl, rfl⟩ := hq
            refine lv_if_eq (tgt := 82) hx hb dX2_isSound_65 (by decide) (fun c65 => ?_) (fun c65 => ?_)
            · replace c65 : 1 = 0 := (nI_eq (a := 1) (b := 0) (by omega) (by omega)).mp c65
              exfalso; omega
            · replace c65 : ¬ 1 = 0 := fun zq => c65 ((nI_eq (a := 1) (b := 0) (by omega) (by omega)).mpr zq)
              refine lv_aload_n hx hb dX2_isSound_68 rfl (lv_at hl 0 rfl) ?_
              refine q_get C hP hA rfl inX2 3 (by decide) g199 rfl dX2_isSound_69 ?_
              refine q_callSN (host := RX6) (rest := []) C (c_X4_isSound l D cy N0 11 h x3 n9 M9 10 hp9 (by have := hpm.length_eq; rw [List.length_map] at this; omega) (by omega)) kX4_isSound (by decide +kernel) g1121 hP hS (by first | decide | omega) hl.1 rfl (by decide) (by first | decide | omega) dX2_isSound_72 (fun v hh17 H locs hq hP hS => ?_)
              obtain ⟨rfl, rfl⟩ := hq
              refine lv_if_eq (tgt := 82) hx hb dX2_isSound_75 (by decide) (fun c75 => ?_) (fun c75 => ?_)
              · replace c75 : 1 = 0 := (nI_eq (a := 1) (b := 0) (by omega) (by omega)).mp c75
                exfalso; omega
              · replace c75 : ¬ 1 = 0 := fun zq => c75 ((nI_eq (a := 1) (b := 0) (by omega) (by omega)).mpr zq)
                refine lv_iconst (v := nI 1) hx hb dX2_isSound_78 (by decide) ?_
                refine lv_goto (tgt := 83) hx hb dX2_isSound_79 (by decide) ?_
                exact q_zret C hP hS (Or.inr rfl) ⟨rfl, rfl⟩ (by omega) dX2_isSound_83
          · replace c36 : 5 = 3 := (nI_eq (a := 5) (b := 3) (by omega) (by omega)).mp c36
            exfalso; omega
      · replace c16 : ¬ 0 ≤ 100 := fun zq => c16 ((nI_leI (a := 0) (b := 100) (by omega) (by omega)).mpr zq)
        exfalso; omega
  · have hno : qNo s9.2.1 := hI.2.1 (hk12.elim Or.inl (fun z => Or.inr (Or.inl z)))
    have hk13 := hk12
    rcases hk13 with hk | hk
    · rcases hR with ⟨rfl, -⟩ | ⟨a9, rfl, hL9, hT9⟩
      · have hk9 : s9.1 = nI 1 := hk
        rw [hk9] at hA
        refine lv_aload_n hx hb dX2_isSound_0 rfl (lv_at hl 0 rfl) ?_
        refine q_callV (rest := []) C (c_X2_amount l D cy N0 h a (nI 1) (nI 0) t1 t2 t3 none none none none hA f1 f2 f3) kX2_amount g1092 g223 rfl g224 g10 hP hS hA (by first | decide | omega) hl.1 rfl (by decide) (by first | decide | omega) dX2_isSound_1 (fun q ce E h' H1 locs1 hE => hE.elim) (fun v hh18 H locs hq hP hS => ?_)
        obtain ⟨rfl, rfl⟩ := hq
        rw [← et]
        refine lv_sipush (v := nI 1000) hx hb dX2_isSound_4 (by decide) ?_
        refine lv_icmp_gt (tgt := 19) hx hb dX2_isSound_7 (by decide) (fun c7 => ?_) (fun c7 => ?_)
        · replace c7 : 1000 < (zAm s9) := (nI_ltI (a := 1000) (b := (zAm s9)) (by omega) (by omega)).mp c7
          exfalso; omega
        · replace c7 : ¬ 1000 < (zAm s9) := fun zq => c7 ((nI_ltI (a := 1000) (b := (zAm s9)) (by omega) (by omega)).mpr zq)
          refine lv_aload_n hx hb dX2_isSound_10 rfl (lv_at hl 0 rfl) ?_
          refine q_get C hP hA rfl inX2 5 (by decide) g203 rfl dX2_isSound_11 ?_
          refine lv_bipush (v := nI 100) hx hb dX2_isSound_14 (by decide) ?_
          refine lv_icmp_le (tgt := 21) hx hb dX2_isSound_16 (by decide) (fun c16 => ?_) (fun c16 => ?_)
          · replace c16 : 0 ≤ 100 := (nI_leI (a := 0) (b := 100) (by omega) (by omega)).mp c16
            refine lv_aload_n hx hb dX2_isSound_21 rfl (lv_at hl 0 rfl) ?_
            refine q_get C hP hA rfl inX2 1 (by decide) g193 rfl dX2_isSound_22 ?_
            refine q_callSN (host := RX6) (rest := []) C (c_X0_isSound l D cy N0 1 h none 0 [] qBr.nil (by decide) (by decide)) kX0_isSound (by decide +kernel) g1094 hP hS (by first | decide | omega) hl.1 rfl (by decide) (by first | decide | omega) dX2_isSound_25 (fun v hh19 H locs hq hP hS => ?_)
            obtain ⟨rfl, rfl⟩ := hq
            refine lv_if_eq (tgt := 82) hx hb dX2_isSound_28 (by decide) (fun c28 => ?_) (fun c28 => ?_)
            · replace c28 : 1 = 0 := (nI_eq (a := 1) (b := 0) (by omega) (by omega)).mp c28
              exfalso; omega
            · replace c28 : ¬ 1 = 0 := fun zq => c28 ((nI_eq (a := 1) (b := 0) (by omega) (by omega)).mpr zq)
              refine lv_aload_n hx hb dX2_isSound_31 rfl (lv_at hl 0 rfl) ?_
              refine q_get C hP hA rfl inX2 0 (by decide) g190 rfl dX2_isSound_32 ?_
              refine lv_iconst (v := nI 3) hx hb dX2_isSound_35 (by decide) ?_
              refine lv_icmp_ne (tgt := 55) hx hb dX2_isSound_36 (by decide) (fun c36 => ?_) (fun c36 => ?_)
              · replace c36 : ¬ 1 = 3 := fun zq => c36 ((nI_eq (a := 1) (b := 3) (by omega) (by omega)).mpr zq)
                refine lv_aload_n hx hb dX2_isSound_55 rfl (lv_at hl 0 rfl) ?_
                refine q_get C hP hA rfl inX2 2 (by decide) g196 rfl dX2_isSound_56 ?_
                refine lv_iconst (v := nI 0) hx hb dX2_isSound_59 (by decide) ?_
                refine lv_iload_n hx hb dX2_isSound_60 rfl (lv_at hl 1 rfl) ?_
                refine lv_iconst (v := nI 0) hx hb dX2_isSound_61 (by decide) ?_
                refine q_callSN (host := RX6) (rest := []) C (c_X3_isSoundN l D cy N0 h 0 mk 0) kX3_isSound (by decide +kernel) g1105 hP hS (by first | decide | omega) hl.1 rfl (by decide) (by first | decide | omega) dX2_isSound_62 (fun v hh20 H locs hq hP hS => ?_)
                obtain ⟨rfl, rfl⟩ := hq
                refine lv_if_eq (tgt := 82) hx hb dX2_isSound_65 (by decide) (fun c65 => ?_) (fun c65 => ?_)
                · replace c65 : 1 = 0 := (nI_eq (a := 1) (b := 0) (by omega) (by omega)).mp c65
                  exfalso; omega
                · replace c65 : ¬ 1 = 0 := fun zq => c65 ((nI_eq (a := 1) (b := 0) (by omega) (by omega)).mpr zq)
                  refine lv_aload_n hx hb dX2_isSound_68 rfl (lv_at hl 0 rfl) ?_
                  refine q_get C hP hA rfl inX2 3 (by decide) g199 rfl dX2_isSound_69 ?_
                  refine q_callSN (host := RX6) (rest := []) C (c_X4_isSound l D cy N0 11 h none 0 [] 10 qPi.nil (by decide) (by decide)) kX4_isSound (by decide +kernel) g1121 hP hS (by first | decide | omega) hl.1 rfl (by decide) (by first | decide | omega) dX2_isSound_72 (fun v hh21 H locs hq hP hS => ?_)
                  obtain ⟨rfl, rfl⟩ := hq
                  refine lv_if_eq (tgt := 82) hx hb dX2_isSound_75 (by decide) (fun c75 => ?_) (fun c75 => ?_)
                  · replace c75 : 1 = 0 := (nI_eq (a := 1) (b := 0) (by omega) (by omega)).mp c75
                    exfalso; omega
                  · replace c75 : ¬ 1 = 0 := fun zq => c75 ((nI_eq (a := 1) (b := 0) (by omega) (by omega)).mpr zq)
                    refine lv_iconst (v := nI 1) hx hb dX2_isSound_78 (by decide) ?_
                    refine lv_goto (tgt := 83) hx hb dX2_isSound_79 (by decide) ?_
                    exact q_zret C hP hS (Or.inr rfl) ⟨rfl, rfl⟩ (by omega) dX2_isSound_83
              · replace c36 : 1 = 3 := (nI_eq (a := 1) (b := 3) (by omega) (by omega)).mp c36
                exfalso; omega
          · replace c16 : ¬ 0 ≤ 100 := fun zq => c16 ((nI_leI (a := 0) (b := 100) (by omega) (by omega)).mpr zq)
            exfalso; omega
      · have hk9 : s9.1 = nI 1 := hk
        rw [hk9] at hA
        refine lv_aload_n hx hb dX2_isSound_0 rfl (lv_at hl 0 rfl) ?_
        refine q_callV (rest := []) C (c_X2_amount l D cy N0 h a (nI 1) (nI 0) t1 t2 t3 none (some a9) none none hA f1 f2 f3) kX2_amount g1092 g223 rfl g224 g10 hP hS hA (by first | decide | omega) hl.1 rfl (by decide) (by first | decide | omega) dX2_isSound_1 (fun q ce E h' H1 locs1 hE => hE.elim) (fun v hh22 H locs hq hP hS => ?_)
        obtain ⟨rfl, rfl⟩ := hq
        rw [← et]
        refine lv_sipush (v := nI 1000) hx hb dX2_isSound_4 (by decide) ?_
        refine lv_icmp_gt (tgt := 19) hx hb dX2_isSound_7 (by decide) (fun c7 => ?_) (fun c7 => ?_)
        · replace c7 : 1000 < (zAm s9) := (nI_ltI (a := 1000) (b := (zAm s9)) (by omega) (by omega)).mp c7
          exfalso; omega
        · replace c7 : ¬ 1000 < (zAm s9) := fun zq => c7 ((nI_ltI (a := 1000) (b := (zAm s9)) (by omega) (by omega)).mpr zq)
          refine lv_aload_n hx hb dX2_isSound_10 rfl (lv_at hl 0 rfl) ?_
          refine q_get C hP hA rfl inX2 5 (by decide) g203 rfl dX2_isSound_11 ?_
          refine lv_bipush (v := nI 100) hx hb dX2_isSound_14 (by decide) ?_
          refine lv_icmp_le (tgt := 21) hx hb dX2_isSound_16 (by decide) (fun c16 => ?_) (fun c16 => ?_)
          · replace c16 : 0 ≤ 100 := (nI_leI (a := 0) (b := 100) (by omega) (by omega)).mp c16
            refine lv_aload_n hx hb dX2_isSound_21 rfl (lv_at hl 0 rfl) ?_
            refine q_get C hP hA rfl inX2 1 (by decide) g193 rfl dX2_isSound_22 ?_
            refine q_callSN (host := RX6) (rest := []) C (c_X0_isSound l D cy N0 1 h none 0 [] qBr.nil (by decide) (by decide)) kX0_isSound (by decide +kernel) g1094 hP hS (by first | decide | omega) hl.1 rfl (by decide) (by first | decide | omega) dX2_isSound_25 (fun v hh23 H locs hq hP hS => ?_)
            obtain ⟨rfl, rfl⟩ := hq
            refine lv_if_eq (tgt := 82) hx hb dX2_isSound_28 (by decide) (fun c28 => ?_) (fun c28 => ?_)
            · replace c28 : 1 = 0 := (nI_eq (a := 1) (b := 0) (by omega) (by omega)).mp c28
              exfalso; omega
            · replace c28 : ¬ 1 = 0 := fun zq => c28 ((nI_eq (a := 1) (b := 0) (by omega) (by omega)).mpr zq)
              refine lv_aload_n hx hb dX2_isSound_31 rfl (lv_at hl 0 rfl) ?_
              refine q_get C hP hA rfl inX2 0 (by decide) g190 rfl dX2_isSound_32 ?_
              refine lv_iconst (v := nI 3) hx hb dX2_isSound_35 (by decide) ?_
              refine lv_icmp_ne (tgt := 55) hx hb dX2_isSound_36 (by decide) (fun c36 => ?_) (fun c36 => ?_)
              · replace c36 : ¬ 1 = 3 := fun zq => c36 ((nI_eq (a := 1) (b := 3) (by omega) (by omega)).mpr zq)
                refine lv_aload_n hx hb dX2_isSound_55 rfl (lv_at hl 0 rfl) ?_
                refine q_get C hP hA rfl inX2 2 (by decide) g196 rfl dX2_isSound_56 ?_
                refine lv_iconst (v := nI 0) hx hb dX2_isSound_59 (by decide) ?_
                refine lv_iload_n hx hb dX2_isSound_60 rfl (lv_at hl 1 rfl) ?_
                refine lv_iconst (v := nI 0) hx hb dX2_isSound_61 (by decide) ?_
                refine q_callSN (host := RX6) (rest := []) C (c_X3_isSound l D cy N0 Im 0 Ok mk 7 h a9 (zSv s9) (fun _ => False) 0 0 hT9 rfl (by rw [zSv_len]; omega) (zSv_no hno) (fun p _ => Nat.mod_one _) ⟨by (cases e9 : zSv s9 with | nil => exact absurd e9 hL9 | cons z y => exact Nat.succ_le_succ (Nat.zero_le _)), fun z => absurd z (by decide)⟩ (fun k => by rw [zfilt hmk, zSv_al]; exact hAl hk12 k)) kX3_isSound (by decide +kernel) g1105 hP hS (by first | decide | omega) hl.1 rfl (by decide) (by first | decide | omega) dX2_isSound_62 (fun v hh24 H locs hq hP hS => ?_)
                obtain ⟨rfl, rfl⟩ := hq
                refine lv_if_eq (tgt := 82) hx hb dX2_isSound_65 (by decide) (fun c65 => ?_) (fun c65 => ?_)
                · replace c65 : 1 = 0 := (nI_eq (a := 1) (b := 0) (by omega) (by omega)).mp c65
                  exfalso; omega
                · replace c65 : ¬ 1 = 0 := fun zq => c65 ((nI_eq (a := 1) (b := 0) (by omega) (by omega)).mpr zq)
                  refine lv_aload_n hx hb dX2_isSound_68 rfl (lv_at hl 0 rfl) ?_
                  refine q_get C hP hA rfl inX2 3 (by decide) g199 rfl dX2_isSound_69 ?_
                  refine q_callSN (host := RX6) (rest := []) C (c_X4_isSound l D cy N0 11 h none 0 [] 10 qPi.nil (by decide) (by decide)) kX4_isSound (by decide +kernel) g1121 hP hS (by first | decide | omega) hl.1 rfl (by decide) (by first | decide | omega) dX2_isSound_72 (fun v hh25 H locs hq hP hS => ?_)
                  obtain ⟨rfl, rfl⟩ := hq
                  refine lv_if_eq (tgt := 82) hx hb dX2_isSound_75 (by decide) (fun c75 => ?_) (fun c75 => ?_)
                  · replace c75 : 1 = 0 := (nI_eq (a := 1) (b := 0) (by omega) (by omega)).mp c75
                    exfalso; omega
                  · replace c75 : ¬ 1 = 0 := fun zq => c75 ((nI_eq (a := 1) (b := 0) (by omega) (by omega)).mpr zq)
                    refine lv_iconst (v := nI 1) hx hb dX2_isSound_78 (by decide) ?_
                    refine lv_goto (tgt := 83) hx hb dX2_isSound_79 (by decide) ?_
                    exact q_zret C hP hS (Or.inr rfl) ⟨rfl, rfl⟩ (by omega) dX2_isSound_83
              · replace c36 : 1 = 3 := (nI_eq (a := 1) (b := 3) (by omega) (by omega)).mp c36
                exfalso; omega
          · replace c16 : ¬ 0 ≤ 100 := fun zq => c16 ((nI_leI (a := 0) (b := 100) (by omega) (by omega)).mpr zq)
            exfalso; omega
    · rcases hR with ⟨rfl, -⟩ | ⟨a9, rfl, hL9, hT9⟩
      · have hk9 : s9.1 = nI 2 := hk
        rw [hk9] at hA
        refine lv_aload_n hx hb dX2_isSound_0 rfl (lv_at hl 0 rfl) ?_
        refine q_callV (rest := []) C (c_X2_amount l D cy N0 h a (nI 2) (nI 0) t1 t2 t3 none none none none hA f1 f2 f3) kX2_amount g1092 g223 rfl g224 g10 hP hS hA (by first | decide | omega) hl.1 rfl (by decide) (by first | decide | omega) dX2_isSound_1 (fun q ce E h' H1 locs1 hE => hE.elim) (fun v hh26 H locs hq hP hS => ?_)
        obtain ⟨rfl, rfl⟩ := hq
        rw [← et]
        refine lv_sipush (v := nI 1000) hx hb dX2_isSound_4 (by decide) ?_
        refine lv_icmp_gt (tgt := 19) hx hb dX2_isSound_7 (by decide) (fun c7 => ?_) (fun c7 => ?_)
        · replace c7 : 1000 < (zAm s9) := (nI_ltI (a := 1000) (b := (zAm s9)) (by omega) (by omega)).mp c7
          exfalso; omega
        · replace c7 : ¬ 1000 < (zAm s9) := fun zq => c7 ((nI_ltI (a := 1000) (b := (zAm s9)) (by omega) (by omega)).mpr zq)
          refine lv_aload_n hx hb dX2_isSound_10 rfl (lv_at hl 0 rfl) ?_
          refine q_get C hP hA rfl inX2 5 (by decide) g203 rfl dX2_isSound_11 ?_
          refine lv_bipush (v := nI 100) hx hb dX2_isSound_14 (by decide) ?_
          refine lv_icmp_le (tgt := 21) hx hb dX2_isSound_16 (by decide) (fun c16 => ?_) (fun c16 => ?_)
          · replace c16 : 0 ≤ 100 := (nI_leI (a := 0) (b := 100) (by omega) (by omega)).mp c16
            refine lv_aload_n hx hb dX2_isSound_21 rfl (lv_at hl 0 rfl) ?_
            refine q_get C hP hA rfl inX2 1 (by decide) g193 rfl dX2_isSound_22 ?_
            refine q_callSN (host := RX6) (rest := []) C (c_X0_isSound l D cy N0 1 h none 0 [] qBr.nil (by decide) (by decide)) kX0_isSound (by decide +kernel) g1094 hP hS (by first | decide | omega) hl.1 rfl (by decide) (by first | decide | omega) dX2_isSound_25 (fun v hh27 H locs hq hP hS => ?_)
            obtain ⟨rfl, rfl⟩ := hq
            refine lv_if_eq (tgt := 82) hx hb dX2_isSound_28 (by decide) (fun c28 => ?_) (fun c28 => ?_)
            · replace c28 : 1 = 0 := (nI_eq (a := 1) (b := 0) (by omega) (by omega)).mp c28
              exfalso; omega
            · replace c28 : ¬ 1 = 0 := fun zq => c28 ((nI_eq (a := 1) (b := 0) (by omega) (by omega)).mpr zq)
              refine lv_aload_n hx hb dX2_isSound_31 rfl (lv_at hl 0 rfl) ?_
              refine q_get C hP hA rfl inX2 0 (by decide) g190 rfl dX2_isSound_32 ?_
              refine lv_iconst (v := nI 3) hx hb dX2_isSound_35 (by decide) ?_
              refine lv_icmp_ne (tgt := 55) hx hb dX2_isSound_36 (by decide) (fun c36 => ?_) (fun c36 => ?_)
              · replace c36 : ¬ 2 = 3 := fun zq => c36 ((nI_eq (a := 2) (b := 3) (by omega) (by omega)).mpr zq)
                refine lv_aload_n hx hb dX2_isSound_55 rfl (lv_at hl 0 rfl) ?_
                refine q_get C hP hA rfl inX2 2 (by decide) g196 rfl dX2_isSound_56 ?_
                refine lv_iconst (v := nI 0) hx hb dX2_isSound_59 (by decide) ?_
                refine lv_iload_n hx hb dX2_isSound_60 rfl (lv_at hl 1 rfl) ?_
                refine lv_iconst (v := nI 0) hx hb dX2_isSound_61 (by decide) ?_
                refine q_callSN (host := RX6) (rest := []) C (c_X3_isSoundN l D cy N0 h 0 mk 0) kX3_isSound (by decide +kernel) g1105 hP hS (by first | decide | omega) hl.1 rfl (by decide) (by first | decide | omega) dX2_isSound_62 (fun v hh28 H locs hq hP hS => ?_)
                obtain ⟨rfl, rfl⟩ := hq
                refine lv_if_eq (tgt := 82) hx hb dX2_isSound_65 (by decide) (fun c65 => ?_) (fun c65 => ?_)
                · replace c65 : 1 = 0 := (nI_eq (a := 1) (b := 0) (by omega) (by omega)).mp c65
                  exfalso; omega
                · replace c65 : ¬ 1 = 0 := fun zq => c65 ((nI_eq (a := 1) (b := 0) (by omega) (by omega)).mpr zq)
                  refine lv_aload_n hx hb dX2_isSound_68 rfl (lv_at hl 0 rfl) ?_
                  refine q_get C hP hA rfl inX2 3 (by decide) g199 rfl dX2_isSound_69 ?_
                  refine q_callSN (host := RX6) (rest := []) C (c_X4_isSound l D cy N0 11 h none 0 [] 10 qPi.nil (by decide) (by decide)) kX4_isSound (by decide +kernel) g1121 hP hS (by first | decide | omega) hl.1 rfl (by decide) (by first | decide | omega) dX2_isSound_72 (fun v hh29 H locs hq hP hS => ?_)
                  obtain ⟨rfl, rfl⟩ := hq
                  refine lv_if_eq (tgt := 82) hx hb dX2_isSound_75 (by decide) (fun c75 => ?_) (fun c75 => ?_)
                  · replace c75 : 1 = 0 := (nI_eq (a := 1) (b := 0) (by omega) (by omega)).mp c75
                    exfalso; omega
                  · replace c75 : ¬ 1 = 0 := fun zq => c75 ((nI_eq (a := 1) (b := 0) (by omega) (by omega)).mpr zq)
                    refine lv_iconst (v := nI 1) hx hb dX2_isSound_78 (by decide) ?_
                    refine lv_goto (tgt := 83) hx hb dX2_isSound_79 (by decide) ?_
                    exact q_zret C hP hS (Or.inr rfl) ⟨rfl, rfl⟩ (by omega) dX2_isSound_83
              · replace c36 : 2 = 3 := (nI_eq (a := 2) (b := 3) (by omega) (by omega)).mp c36
                exfalso; omega
          · replace c16 : ¬ 0 ≤ 100 := fun zq => c16 ((nI_leI (a := 0) (b := 100) (by omega) (by omega)).mpr zq)
            exfalso; omega
      · have hk9 : s9.1 = nI 2 := hk
        rw [hk9] at hA
        refine lv_aload_n hx hb dX2_isSound_0 rfl (lv_at hl 0 rfl) ?_
        refine q_callV (rest := []) C (c_X2_amount l D cy N0 h a (nI 2) (nI 0) t1 t2 t3 none (some a9) none none hA f1 f2 f3) kX2_amount g1092 g223 rfl g224 g10 hP hS hA (by first | decide | omega) hl.1 rfl (by decide) (by first | decide | omega) dX2_isSound_1 (fun q ce E h' H1 locs1 hE => hE.elim) (fun v hh30 H locs hq hP hS => ?_)
        obtain ⟨rfl, rfl⟩ := hq
        rw [← et]
        refine lv_sipush (v := nI 1000) hx hb dX2_isSound_4 (by decide) ?_
        refine lv_icmp_gt (tgt := 19) hx hb dX2_isSound_7 (by decide) (fun c7 => ?_) (fun c7 => ?_)
        · replace c7 : 1000 < (zAm s9) := (nI_ltI (a := 1000) (b := (zAm s9)) (by omega) (by omega)).mp c7
          exfalso; omega
        · replace c7 : ¬ 1000 < (zAm s9) := fun zq => c7 ((nI_ltI (a := 1000) (b := (zAm s9)) (by omega) (by omega)).mpr zq)
          refine lv_aload_n hx hb dX2_isSound_10 rfl (lv_at hl 0 rfl) ?_
          refine q_get C hP hA rfl inX2 5 (by decide) g203 rfl dX2_isSound_11 ?_
          refine lv_bipush (v := nI 100) hx hb dX2_isSound_14 (by decide) ?_
          refine lv_icmp_le (tgt := 21) hx hb dX2_isSound_16 (by decide) (fun c16 => ?_) (fun c16 => ?_)
          · replace c16 : 0 ≤ 100 := (nI_leI (a := 0) (b := 100) (by omega) (by omega)).mp c16
            refine lv_aload_n hx hb dX2_isSound_21 rfl (lv_at hl 0 rfl) ?_
            refine q_get C hP hA rfl inX2 1 (by decide) g193 rfl dX2_isSound_22 ?_
            refine q_callSN (host := RX6) (rest := []) C (c_X0_isSound l D cy N0 1 h none 0 [] qBr.nil (by decide) (by decide)) kX0_isSound (by decide +kernel) g1094 hP hS (by first | decide | omega) hl.1 rfl (by decide) (by first | decide | omega) dX2_isSound_25 (fun v hh31 H locs hq hP hS => ?_)
            obtain ⟨rfl, rfl⟩ := hq
            refine lv_if_eq (tgt := 82) hx hb dX2_isSound_28 (by decide) (fun c28 => ?_) (fun c28 => ?_)
            · replace c28 : 1 = 0 := (nI_eq (a := 1) (b := 0) (by omega) (by omega)).mp c28
              exfalso; omega
            · replace c28 : ¬ 1 = 0 := fun zq => c28 ((nI_eq (a := 1) (b := 0) (by omega) (by omega)).mpr zq)
              refine lv_aload_n hx hb dX2_isSound_31 rfl (lv_at hl 0 rfl) ?_
              refine q_get C hP hA rfl inX2 0 (by decide) g190 rfl dX2_isSound_32 ?_
              refine lv_iconst (v := nI 3) hx hb dX2_isSound_35 (by decide) ?_
              refine lv_icmp_ne (tgt := 55) hx hb dX2_isSound_36 (by decide) (fun c36 => ?_) (fun c36 => ?_)
              · replace c36 : ¬ 2 = 3 := fun zq => c36 ((nI_eq (a := 2) (b := 3) (by omega) (by omega)).mpr zq)
                refine lv_aload_n hx hb dX2_isSound_55 rfl (lv_at hl 0 rfl) ?_
                refine q_get C hP hA rfl inX2 2 (by decide) g196 rfl dX2_isSound_56 ?_
                refine lv_iconst (v := nI 0) hx hb dX2_isSound_59 (by decide) ?_
                refine lv_iload_n hx hb dX2_isSound_60 rfl (lv_at hl 1 rfl) ?_
                refine lv_iconst (v := nI 0) hx hb dX2_isSound_61 (by decide) ?_
                refine q_callSN (host := RX6) (rest := []) C (c_X3_isSound l D cy N0 Im 0 Ok mk 7 h a9 (zSv s9) (fun _ => False) 0 0 hT9 rfl (by rw [zSv_len]; omega) (zSv_no hno) (fun p _ => Nat.mod_one _) ⟨by (cases e9 : zSv s9 with | nil => exact absurd e9 hL9 | cons z y => exact Nat.succ_le_succ (Nat.zero_le _)), fun z => absurd z (by decide)⟩ (fun k => by rw [zfilt hmk, zSv_al]; exact hAl hk12 k)) kX3_isSound (by decide +kernel) g1105 hP hS (by first | decide | omega) hl.1 rfl (by decide) (by first | decide | omega) dX2_isSound_62 (fun v hh32 H locs hq hP hS => ?_)
                obtain ⟨rfl, rfl⟩ := hq
                refine lv_if_eq (tgt := 82) hx hb dX2_isSound_65 (by decide) (fun c65 => ?_) (fun c65 => ?_)
                · replace c65 : 1 = 0 := (nI_eq (a := 1) (b := 0) (by omega) (by omega)).mp c65
                  exfalso; omega
                · replace c65 : ¬ 1 = 0 := fun zq => c65 ((nI_eq (a := 1) (b := 0) (by omega) (by omega)).mpr zq)
                  refine lv_aload_n hx hb dX2_isSound_68 rfl (lv_at hl 0 rfl) ?_
                  refine q_get C hP hA rfl inX2 3 (by decide) g199 rfl dX2_isSound_69 ?_
                  refine q_callSN (host := RX6) (rest := []) C (c_X4_isSound l D cy N0 11 h none 0 [] 10 qPi.nil (by decide) (by decide)) kX4_isSound (by decide +kernel) g1121 hP hS (by first | decide | omega) hl.1 rfl (by decide) (by first | decide | omega) dX2_isSound_72 (fun v hh33 H locs hq hP hS => ?_)
                  obtain ⟨rfl, rfl⟩ := hq
                  refine lv_if_eq (tgt := 82) hx hb dX2_isSound_75 (by decide) (fun c75 => ?_) (fun c75 => ?_)
                  · replace c75 : 1 = 0 := (nI_eq (a := 1) (b := 0) (by omega) (by omega)).mp c75
                    exfalso; omega
                  · replace c75 : ¬ 1 = 0 := fun zq => c75 ((nI_eq (a := 1) (b := 0) (by omega) (by omega)).mpr zq)
                    refine lv_iconst (v := nI 1) hx hb dX2_isSound_78 (by decide) ?_
                    refine lv_goto (tgt := 83) hx hb dX2_isSound_79 (by decide) ?_
                    exact q_zret C hP hS (Or.inr rfl) ⟨rfl, rfl⟩ (by omega) dX2_isSound_83
              · replace c36 : 2 = 3 := (nI_eq (a := 2) (b := 3) (by omega) (by omega)).mp c36
                exfalso; omega
          · replace c16 : ¬ 0 ≤ 100 := fun zq => c16 ((nI_leI (a := 0) (b := 100) (by omega) (by omega)).mpr zq)
            exfalso; omega
  · have hk9 : s9.1 = nI 6 := hk
    rw [hk9] at hA
    refine lv_aload_n hx hb dX2_isSound_0 rfl (lv_at hl 0 rfl) ?_
    refine q_callV (rest := []) C (c_X2_amount l D cy N0 h a (nI 6) (nI s9.2.2.2) t1 t2 t3 none none none x4 hA f1 f2 f3) kX2_amount g1092 g223 rfl g224 g10 hP hS hA (by first | decide | omega) hl.1 rfl (by decide) (by first | decide | omega) dX2_isSound_1 (fun q ce E h' H1 locs1 hE => hE.elim) (fun v hh34 H locs hq hP hS => ?_)
    obtain ⟨rfl, rfl⟩ := hq
    rw [← et]
    refine lv_sipush (v := nI 1000) hx hb dX2_isSound_4 (by decide) ?_
    refine lv_icmp_gt (tgt := 19) hx hb dX2_isSound_7 (by decide) (fun c7 => ?_) (fun c7 => ?_)
    · replace c7 : 1000 < (zAm s9) := (nI_ltI (a := 1000) (b := (zAm s9)) (by omega) (by omega)).mp c7
      exfalso; omega
    · replace c7 : ¬ 1000 < (zAm s9) := fun zq => c7 ((nI_ltI (a := 1000) (b := (zAm s9)) (by omega) (by omega)).mpr zq)
      refine lv_aload_n hx hb dX2_isSound_10 rfl (lv_at hl 0 rfl) ?_
      refine q_get C hP hA rfl inX2 5 (by decide) g203 rfl dX2_isSound_11 ?_
      refine lv_bipush (v := nI 100) hx hb dX2_isSound_14 (by decide) ?_
      refine lv_icmp_le (tgt := 21) hx hb dX2_isSound_16 (by decide) (fun c16 => ?_) (fun c16 => ?_)
      · replace c16 : (s9.2.2.2) ≤ 100 := (nI_leI (a := s9.2.2.2) (b := 100) (by omega) (by omega)).mp c16
        refine lv_aload_n hx hb dX2_isSound_21 rfl (lv_at hl 0 rfl) ?_
        refine q_get C hP hA rfl inX2 1 (by decide) g193 rfl dX2_isSound_22 ?_
        refine q_callSN (host := RX6) (rest := []) C (c_X0_isSound l D cy N0 1 h none 0 [] qBr.nil (by decide) (by decide)) kX0_isSound (by decide +kernel) g1094 hP hS (by first | decide | omega) hl.1 rfl (by decide) (by first | decide | omega) dX2_isSound_25 (fun v hh35 H locs hq hP hS => ?_)
        obtain ⟨rfl, rfl⟩ := hq
        refine lv_if_eq (tgt := 82) hx hb dX2_isSound_28 (by decide) (fun c28 => ?_) (fun c28 => ?_)
        · replace c28 : 1 = 0 := (nI_eq (a := 1) (b := 0) (by omega) (by omega)).mp c28
          exfalso; omega
        · replace c28 : ¬ 1 = 0 := fun zq => c28 ((nI_eq (a := 1) (b := 0) (by omega) (by omega)).mpr zq)
          refine lv_aload_n hx hb dX2_isSound_31 rfl (lv_at hl 0 rfl) ?_
          refine q_get C hP hA rfl inX2 0 (by decide) g190 rfl dX2_isSound_32 ?_
          refine lv_iconst (v := nI 3) hx hb dX2_isSound_35 (by decide) ?_
          refine lv_icmp_ne (tgt := 55) hx hb dX2_isSound_36 (by decide) (fun c36 => ?_) (fun c36 => ?_)
          · replace c36 : ¬ 6 = 3 := fun zq => c36 ((nI_eq (a := 6) (b := 3) (by omega) (by omega)).mpr zq)
            refine lv_aload_n hx hb dX2_isSound_55 rfl (lv_at hl 0 rfl) ?_
            refine q_get C hP hA rfl inX2 2 (by decide) g196 rfl dX2_isSound_56 ?_
            refine lv_iconst (v := nI 0) hx hb dX2_isSound_59 (by decide) ?_
            refine lv_iload_n hx hb dX2_isSound_60 rfl (lv_at hl 1 rfl) ?_
            refine lv_iconst (v := nI 0) hx hb dX2_isSound_61 (by decide) ?_
            refine q_callSN (host := RX6) (rest := []) C (c_X3_isSoundN l D cy N0 h 0 mk 0) kX3_isSound (by decide +kernel) g1105 hP hS (by first | decide | omega) hl.1 rfl (by decide) (by first | decide | omega) dX2_isSound_62 (fun v hh36 H locs hq hP hS => ?_)
            obtain ⟨rfl, rfl⟩ := hq
            refine lv_if_eq (tgt := 82) hx hb dX2_isSound_65 (by decide) (fun c65 => ?_) (fun c65 => ?_)
            · replace c65 : 1 = 0 := (nI_eq (a := 1) (b := 0) (by omega) (by omega)).mp c65
              exfalso; omega
            · replace c65 : ¬ 1 = 0 := fun zq => c65 ((nI_eq (a := 1) (b := 0) (by omega) (by omega)).mpr zq)
              refine lv_aload_n hx hb dX2_isSound_68 rfl (lv_at hl 0 rfl) ?_
              refine q_get C hP hA rfl inX2 3 (by decide) g199 rfl dX2_isSound_69 ?_
              refine q_callSN (host := RX6) (rest := []) C (c_X4_isSound l D cy N0 11 h none 0 [] 10 qPi.nil (by decide) (by decide)) kX4_isSound (by decide +kernel) g1121 hP hS (by first | decide | omega) hl.1 rfl (by decide) (by first | decide | omega) dX2_isSound_72 (fun v hh37 H locs hq hP hS => ?_)
              obtain ⟨rfl, rfl⟩ := hq
              refine lv_if_eq (tgt := 82) hx hb dX2_isSound_75 (by decide) (fun c75 => ?_) (fun c75 => ?_)
              · replace c75 : 1 = 0 := (nI_eq (a := 1) (b := 0) (by omega) (by omega)).mp c75
                exfalso; omega
              · replace c75 : ¬ 1 = 0 := fun zq => c75 ((nI_eq (a := 1) (b := 0) (by omega) (by omega)).mpr zq)
                refine lv_iconst (v := nI 1) hx hb dX2_isSound_78 (by decide) ?_
                refine lv_goto (tgt := 83) hx hb dX2_isSound_79 (by decide) ?_
                exact q_zret C hP hS (Or.inr rfl) ⟨rfl, rfl⟩ (by omega) dX2_isSound_83
          · replace c36 : 6 = 3 := (nI_eq (a := 6) (b := 3) (by omega) (by omega)).mp c36
            exfalso; omega
      · replace c16 : ¬ (s9.2.2.2) ≤ 100 := fun zq => c16 ((nI_leI (a := s9.2.2.2) (b := 100) (by omega) (by omega)).mpr zq)
        exfalso; omega
theorem dX6_openBuilders_33 : decode cX6_openBuilders 33 = .ok (.iinc 1 1, 3) := by decide +kernel
set_option maxRecDepth 100000 in
set_option maxHeartbeats 4000000 in
theorem z_openB (l : Launch) (D : va_G) (cy : Nat → ClassId) (N0 : Nat) (h : qH) (x : Nat) (mk : Int32) (sl bl kr vr Ed : Nat) (fs : Nat → Option Nat) (bd br eb : Nat → Nat) (Im : Nat → Prop) (Xb : Nat → Nat → Prop) (g : Nat → Nat) (S : Nat → qSlot) (W : qWo) (Bd sk Rn : Nat) (dp : Nat → Nat) (hz : zQ cy h x mk sl bl kr vr Ed fs bd br eb Im Xb g S W) (hI : ∀ i, i < 28 → qOk (S i).1 (S i).2.1) (hLn : ∀ i, i < 28 → (S i).2.1.length ≤ 1000) (hV : qWv Bd sk Rn dp W) : qC l D cy N0 yX6_openBuilders cX6_openBuilders 6 (some .int) 4 80 0 0 [.ref x] h (fun v h' => v = some (.int (nI (xOp S 4))) ∧ h = h') (fun E h' => False) := by
  refine q_ofW (by decide) (by exact Nat.le_of_ble_eq_true rfl) ?_
  intro p e s m below meth c ls C hP hl
  have hx := C.1
  have hb := C.2.1
  have hS : va_S (qA N0) s.heap s.heap [] := va_S.rf
  have hl : lv_has ls 6 [(0, .ref x)] := hl
  obtain ⟨o, a, k⟩ := W
  obtain ⟨qb, hbl, hqb⟩ := hz.2.1.2.1
  refine lv_iconst (v := nI 0) hx hb dX6_openBuilders_0 (by decide) ?_
  refine lv_istore_n (lv' := [(1, .int (nI 0)), (0, .ref x)]) hx hb dX6_openBuilders_1 rfl hl (by decide) rfl (fun ls hl => ?_)
  refine lv_aload_n hx hb dX6_openBuilders_2 rfl (lv_at hl 1 rfl) ?_
  refine q_get C hP hz.1.1 rfl inX6 2 (by decide) g70 rfl dX6_openBuilders_3 ?_
  refine lv_astore_n (lv' := [(2, .ref bl), (1, .int (nI 0)), (0, .ref x)]) hx hb dX6_openBuilders_6 rfl hl (by decide) rfl (fun ls hl => ?_)
  refine lv_aload_n hx hb dX6_openBuilders_7 rfl (lv_at hl 0 rfl) ?_
  refine q_alen C hP hbl rfl dX6_openBuilders_8 ?_
  refine lv_istore_n (lv' := [(3, .int (nI 4)), (2, .ref bl), (1, .int (nI 0)), (0, .ref x)]) hx hb dX6_openBuilders_9 rfl hl (by decide) rfl (fun ls hl => ?_)
  refine lv_iconst (v := nI 0) hx hb dX6_openBuilders_10 (by decide) ?_
  refine lv_istore (lv' := [(4, .int (nI 0)), (3, .int (nI 4)), (2, .ref bl), (1, .int (nI 0)), (0, .ref x)]) hx hb dX6_openBuilders_11 hl (by decide) rfl (fun ls hl => ?_)
  refine (?_ : ∀ (t9 q9 n8 : Nat) (H : Heap) (locs : List Loc) (ls : Array Slot) (c1 c2 : Nat), 4 - q9 < t9 → lv_has ls 6 [(4, .int (nI q9)), (3, .int (nI 4)), (2, .ref bl), (1, .int (nI n8))] → (q9 ≤ 4 ∧ n8 = xOp S q9) → qP D N0 (h) H → va_S (qA N0) s.heap H locs → c1 ≤ 0 ∧ c2 ≤ 0 → W p l e _ s m _ below meth c H locs c1 c2 _ (F0 m 13 ls [])) (4 + 1) 0 0 _ _ ls _ _ (by omega) (lv_sub hl [0, 1, 2, 3] rfl) ⟨by omega, rfl⟩ hP hS ⟨by omega, by omega⟩
  clear hl hP hS
  intro t9
  induction t9 with
  | zero => intro q9 _ _ _ _ _ _ h; exact absurd h (Nat.not_lt_zero _)
  | succ t9 ihl =>
    intro q9 n8 H locs ls c1 c2 ht9 hl hcp hP hS hcc
    have hn8 := xOp_le (S := S) q9
    refine lv_iload hx hb dX6_openBuilders_13 (lv_at hl 0 rfl) ?_
    refine lv_iload_n hx hb dX6_openBuilders_15 rfl (lv_at hl 1 rfl) ?_
    refine lv_icmp_ge (tgt := 42) hx hb dX6_openBuilders_16 (by decide) (fun c16 => ?_) (fun c16 => ?_)
    · replace c16 : 4 ≤ q9 := (nI_leI (a := 4) (b := q9) (by omega) (by omega)).mp c16
      refine lv_iload_n hx hb dX6_openBuilders_42 rfl (lv_at hl 3 rfl) ?_
      exact q_iret C hP hS ⟨by rw [hcp.2, show q9 = 4 by omega], rfl⟩ (by omega) dX6_openBuilders_43
    · replace c16 : ¬ 4 ≤ q9 := fun zq => c16 ((nI_leI (a := 4) (b := q9) (by omega) (by omega)).mpr zq)
      refine lv_aload_n hx hb dX6_openBuilders_19 rfl (lv_at hl 2 rfl) ?_
      refine lv_iload hx hb dX6_openBuilders_20 (lv_at hl 0 rfl) ?_
      obtain ⟨op, kd, ln, ed9, rt, fb, fbo, fbr, hbc⟩ := hz.2.2.2.1 q9 (by omega)
      refine q_aaldN C hP hbl rfl (by omega) (by omega) dX6_openBuilders_22 ?_
      rw [hqb q9 (by omega)]
      obtain ⟨ab, eab⟩ : ∃ z, bd q9 = z := ⟨_, rfl⟩
      rw [eab] at fbo ⊢
      rcases hbc with ⟨hm1, rfl, -⟩ | ⟨rfl, -, -, hbc⟩
      · have hge : xOp S (q9 + 1) = xOp S q9 + 0 := by show xOp S q9 + (if (S (24 + q9)).1 < 0 then 0 else 1) = _; rw [if_pos (by rw [hm1]; decide)]
        refine lv_astore (lv' := [(5, .ref ab), (4, .int (nI q9)), (3, .int (nI 4)), (2, .ref bl), (1, .int (nI n8))]) hx hb dX6_openBuilders_23 hl (by decide) rfl (fun ls hl => ?_)
        refine lv_aload hx hb dX6_openBuilders_25 (lv_at hl 0 rfl) ?_
        refine q_getN C hP fbo rfl inX1 1 (by decide) (by decide +kernel) rfl dX6_openBuilders_27 ?_
        refine lv_if_eq (tgt := 36) hx hb dX6_openBuilders_30 (by decide) (fun c30 => ?_) (fun c30 => ?_)
        · replace c30 : 0 = 0 := (nI_eq (a := 0) (b := 0) (by omega) (by omega)).mp c30
          refine lv_iinc (v := nI (q9 + 1)) (lv' := [(4, .int (nI (q9 + 1))), (5, .ref ab), (3, .int (nI 4)), (2, .ref bl), (1, .int (nI n8))]) hx hb dX6_openBuilders_36 hl (k := 1) rfl (nI_1 q9) (by decide) rfl (fun ls hl => ?_)
          refine lv_goto (tgt := 13) hx hb dX6_openBuilders_39 (by decide) ?_
          exact ihl (q9 + 1) (n8 + 0) H locs ls _ _ (by omega) (lv_sub hl [0, 2, 3, 4] rfl) ⟨by omega, by rw [hge, hcp.2]⟩ hP hS hcc
        · replace c30 : ¬ 0 = 0 := fun zq => c30 ((nI_eq (a := 0) (b := 0) (by omega) (by omega)).mpr zq)
          exfalso; omega
      · have hge : xOp S (q9 + 1) = xOp S q9 + 1 := by show xOp S q9 + (if (S (24 + q9)).1 < 0 then 0 else 1) = _; rw [if_neg (hbc.elim (fun z => by rw [z.1]; decide) (fun z => z.1.elim (fun y => by rw [y]; decide) (fun y => by rw [y]; decide)))]
        refine lv_astore (lv' := [(5, .ref ab), (4, .int (nI q9)), (3, .int (nI 4)), (2, .ref bl), (1, .int (nI n8))]) hx hb dX6_openBuilders_23 hl (by decide) rfl (fun ls hl => ?_)
        refine lv_aload hx hb dX6_openBuilders_25 (lv_at hl 0 rfl) ?_
        refine q_getN C hP fbo rfl inX1 1 (by decide) (by decide +kernel) rfl dX6_openBuilders_27 ?_
        refine lv_if_eq (tgt := 36) hx hb dX6_openBuilders_30 (by decide) (fun c30 => ?_) (fun c30 => ?_)
        · replace c30 : 1 = 0 := (nI_eq (a := 1) (b := 0) (by omega) (by omega)).mp c30
          exfalso; omega
        · replace c30 : ¬ 1 = 0 := fun zq => c30 ((nI_eq (a := 1) (b := 0) (by omega) (by omega)).mpr zq)
          refine lv_iinc (v := nI (n8 + 1)) (lv' := [(1, .int (nI (n8 + 1))), (5, .ref ab), (4, .int (nI q9)), (3, .int (nI 4)), (2, .ref bl)]) hx hb dX6_openBuilders_33 hl (k := 4) rfl (nI_1 n8) (by decide) rfl (fun ls hl => ?_)
          refine lv_iinc (v := nI (q9 + 1)) (lv' := [(4, .int (nI (q9 + 1))), (1, .int (nI (n8 + 1))), (5, .ref ab), (3, .int (nI 4)), (2, .ref bl)]) hx hb dX6_openBuilders_36 hl (k := 2) rfl (nI_1 q9) (by decide) rfl (fun ls hl => ?_)
          refine lv_goto (tgt := 13) hx hb dX6_openBuilders_39 (by decide) ?_
          exact ihl (q9 + 1) (n8 + 1) H locs ls _ _ (by omega) (lv_sub hl [0, 3, 4, 1] rfl) ⟨by omega, by rw [hge, hcp.2]⟩ hP hS hcc
theorem dX6_unsoundSlots_30 : decode cX6_unsoundSlots 30 = .ok (.aload 5, 2) := by decide +kernel
theorem dX6_unsoundSlots_32 : decode cX6_unsoundSlots 32 = .ok (.aload_n 0, 1) := by decide +kernel
theorem dX6_unsoundSlots_33 : decode cX6_unsoundSlots 33 = .ok (.getfield 34, 3) := by decide +kernel
theorem dX6_unsoundSlots_36 : decode cX6_unsoundSlots 36 = .ok (.invokevirtual 369, 3) := by decide +kernel
theorem dX6_unsoundSlots_39 : decode cX6_unsoundSlots 39 = .ok (.ifCond .ne 6, 3) := by decide +kernel
set_option maxRecDepth 100000 in
set_option maxHeartbeats 4000000 in
theorem z_unsound (l : Launch) (D : va_G) (cy : Nat → ClassId) (N0 : Nat) (h : qH) (x : Nat) (mk : Int32) (sl bl kr vr Ed : Nat) (fs : Nat → Option Nat) (bd br eb : Nat → Nat) (Im : Nat → Prop) (Xb : Nat → Nat → Prop) (g : Nat → Nat) (S : Nat → qSlot) (W : qWo) (Bd sk Rn : Nat) (dp : Nat → Nat) (gr : Int32) (hz : zQ cy h x mk sl bl kr vr Ed fs bd br eb Im Xb g S W) (hI : ∀ i, i < 28 → qOk (S i).1 (S i).2.1) (hLn : ∀ i, i < 28 → (S i).2.1.length ≤ 1000) (hV : qWv Bd sk Rn dp W) (hD : ∀ i, i < 24 → (S i).2.2.2 ≤ 100) (hAl : ∀ i, i < 28 → ((S i).1 = 1 ∨ (S i).1 = 2) → ∀ k, xAl gr (S i).2.1 k ≤ 16) (hmk : qMk gr = mk) : qC l D cy N0 yX6_unsoundSlots cX6_unsoundSlots 6 (some .int) 45 1000 0 0 [.ref x] h (fun v h' => v = some (.int (nI 0)) ∧ h = h') (fun E h' => False) := by
  refine q_ofW (by decide) (by exact Nat.le_of_ble_eq_true rfl) ?_
  intro p e s m below meth c ls C hP hl
  have hx := C.1
  have hb := C.2.1
  have hS : va_S (qA N0) s.heap s.heap [] := va_S.rf
  have hl : lv_has ls 6 [(0, .ref x)] := hl
  obtain ⟨o, a, k⟩ := W
  refine lv_iconst (v := nI 0) hx hb dX6_unsoundSlots_0 (by decide) ?_
  refine lv_istore_n (lv' := [(1, .int (nI 0)), (0, .ref x)]) hx hb dX6_unsoundSlots_1 rfl hl (by decide) rfl (fun ls hl => ?_)
  refine lv_aload_n hx hb dX6_unsoundSlots_2 rfl (lv_at hl 1 rfl) ?_
  refine q_get C hP hz.1.1 rfl inX6 1 (by decide) g69 rfl dX6_unsoundSlots_3 ?_
  refine lv_astore_n (lv' := [(2, .ref sl), (1, .int (nI 0)), (0, .ref x)]) hx hb dX6_unsoundSlots_6 rfl hl (by decide) rfl (fun ls hl => ?_)
  refine lv_aload_n hx hb dX6_unsoundSlots_7 rfl (lv_at hl 0 rfl) ?_
  refine q_alen C hP hz.2.1.1 rfl dX6_unsoundSlots_8 ?_
  refine lv_istore_n (lv' := [(3, .int (nI 24)), (2, .ref sl), (1, .int (nI 0)), (0, .ref x)]) hx hb dX6_unsoundSlots_9 rfl hl (by decide) rfl (fun ls hl => ?_)
  refine lv_iconst (v := nI 0) hx hb dX6_unsoundSlots_10 (by decide) ?_
  refine lv_istore (lv' := [(4, .int (nI 0)), (3, .int (nI 24)), (2, .ref sl), (1, .int (nI 0)), (0, .ref x)]) hx hb dX6_unsoundSlots_11 hl (by decide) rfl (fun ls hl => ?_)
  refine (?_ : ∀ (t9 q9 : Nat) (H : Heap) (locs : List Loc) (ls : Array Slot) (c1 c2 : Nat), 24 - q9 < t9 → lv_has ls 6 [(4, .int (nI q9)), (3, .int (nI 24)), (2, .ref sl), (1, .int (nI 0)), (0, .ref x)] → (q9 ≤ 24) → qP D N0 (h) H → va_S (qA N0) s.heap H locs → c1 ≤ 0 ∧ c2 ≤ 0 → W p l e _ s m _ below meth c H locs c1 c2 _ (F0 m 13 ls [])) (24 + 1) 0 _ _ ls _ _ (by omega) (lv_sub hl [0, 1, 2, 3, 4] rfl) (Nat.zero_le _) hP hS ⟨by omega, by omega⟩
  clear hl hP hS
  intro t9
  induction t9 with
  | zero => intro q9 _ _ _ _ _ h; exact absurd h (Nat.not_lt_zero _)
  | succ t9 ihl =>
    intro q9 H locs ls c1 c2 ht9 hl hcp hP hS hcc
    refine lv_iload hx hb dX6_unsoundSlots_13 (lv_at hl 0 rfl) ?_
    refine lv_iload_n hx hb dX6_unsoundSlots_15 rfl (lv_at hl 1 rfl) ?_
    refine lv_icmp_ge (tgt := 51) hx hb dX6_unsoundSlots_16 (by decide) (fun c16 => ?_) (fun c16 => ?_)
    · replace c16 : 24 ≤ q9 := (nI_leI (a := 24) (b := q9) (by omega) (by omega)).mp c16
      refine lv_iload_n hx hb dX6_unsoundSlots_51 rfl (lv_at hl 3 rfl) ?_
      exact q_iret C hP hS ⟨rfl, rfl⟩ (by omega) dX6_unsoundSlots_52
    · replace c16 : ¬ 24 ≤ q9 := fun zq => c16 ((nI_leI (a := 24) (b := q9) (by omega) (by omega)).mpr zq)
      refine lv_aload_n hx hb dX6_unsoundSlots_19 rfl (lv_at hl 2 rfl) ?_
      refine lv_iload hx hb dX6_unsoundSlots_20 (lv_at hl 0 rfl) ?_
      refine q_aaldN C hP hz.2.1.1 rfl (by omega) (by omega) dX6_unsoundSlots_22 ?_
      rcases hz.2.2.1 q9 (by omega) with ⟨e1, -⟩ | ⟨a9, e1, -, x1, x2, x3, x4, dv, fa9, zv9⟩
      · rw [e1]
        refine lv_astoreN (lv' := [(5, .null), (4, .int (nI q9)), (3, .int (nI 24)), (2, .ref sl), (1, .int (nI 0)), (0, .ref x)]) hx hb dX6_unsoundSlots_23 hl (by decide) rfl (fun ls hl => ?_)
        refine lv_aloadN hx hb dX6_unsoundSlots_25 (lv_at hl 0 rfl) ?_
        refine lv_ifnullN (tgt := 45) hx hb dX6_unsoundSlots_27 (by decide) ?_
        refine lv_iinc (v := nI (q9 + 1)) (lv' := [(4, .int (nI (q9 + 1))), (5, .null), (3, .int (nI 24)), (2, .ref sl), (1, .int (nI 0)), (0, .ref x)]) hx hb dX6_unsoundSlots_45 hl (k := 1) rfl (nI_1 q9) (by decide) rfl (fun ls hl => ?_)
        refine lv_goto (tgt := 13) hx hb dX6_unsoundSlots_48 (by decide) ?_
        exact ihl (q9 + 1) H locs ls _ _ (by omega) (lv_sub hl [0, 2, 3, 4, 5] rfl) (by omega) hP hS hcc
      · rw [e1]
        refine lv_astore (lv' := [(5, .ref a9), (4, .int (nI q9)), (3, .int (nI 24)), (2, .ref sl), (1, .int (nI 0)), (0, .ref x)]) hx hb dX6_unsoundSlots_23 hl (by decide) rfl (fun ls hl => ?_)
        refine lv_aload hx hb dX6_unsoundSlots_25 (lv_at hl 0 rfl) ?_
        refine lv_ifnull hx hb dX6_unsoundSlots_27 ?_
        refine lv_aload hx hb dX6_unsoundSlots_30 (lv_at hl 0 rfl) ?_
        refine lv_aload_n hx hb dX6_unsoundSlots_32 rfl (lv_at hl 5 rfl) ?_
        refine q_get C hP hz.1.1 rfl inX6 0 (by decide) g68 rfl dX6_unsoundSlots_33 ?_
        refine q_callV (rest := []) C (z_hsound l D cy N0 h Im (zOk Ed eb S) mk gr g (S q9) a9 x1 x2 x3 x4 dv fa9 zv9 (hI q9 (by omega)) (hLn q9 (by omega)) (hD q9 (by omega)) (hAl q9 (by omega)) hmk) kX2_isSound g1088 g1089 rfl g1090 g10 hP hS fa9 (by first | decide | omega) hl.1 rfl (by decide) (by first | decide | omega) dX6_unsoundSlots_36 (fun q ce E h' H1 locs1 hE => hE.elim) (fun v hh1 H locs hq hP hS => ?_)
        obtain ⟨rfl, rfl⟩ := hq
        refine lv_if_ne (tgt := 45) hx hb dX6_unsoundSlots_39 (by decide) (fun c39 => ?_) (fun c39 => ?_)
        · replace c39 : ¬ 1 = 0 := fun zq => c39 ((nI_eq (a := 1) (b := 0) (by omega) (by omega)).mpr zq)
          refine lv_iinc (v := nI (q9 + 1)) (lv' := [(4, .int (nI (q9 + 1))), (5, .ref a9), (3, .int (nI 24)), (2, .ref sl), (1, .int (nI 0)), (0, .ref x)]) hx hb dX6_unsoundSlots_45 hl (k := 1) rfl (nI_1 q9) (by decide) rfl (fun ls hl => ?_)
          refine lv_goto (tgt := 13) hx hb dX6_unsoundSlots_48 (by decide) ?_
          exact ihl (q9 + 1) H locs ls _ _ (by omega) (lv_sub hl [0, 2, 3, 4, 5] rfl) (by omega) hP hS hcc
        · replace c39 : 1 = 0 := (nI_eq (a := 1) (b := 0) (by omega) (by omega)).mp c39
          exfalso; omega

set_option maxRecDepth 100000 in
set_option maxHeartbeats 4000000 in
theorem z_count (l : Launch) (D : va_G) (cy : Nat → ClassId) (N0 : Nat) (h : qH) (x : Nat) (mk : Int32) (sl bl kr vr Ed : Nat) (fs : Nat → Option Nat) (bd br eb : Nat → Nat) (Im : Nat → Prop) (Xb : Nat → Nat → Prop) (g : Nat → Nat) (S : Nat → qSlot) (W : qWo) (Bd sk Rn : Nat) (dp : Nat → Nat) (gr : Int32) (p0 : Int32) (hz : zQ cy h x mk sl bl kr vr Ed fs bd br eb Im Xb g S W) (hI : ∀ i, i < 28 → qOk (S i).1 (S i).2.1) (hLn : ∀ i, i < 28 → (S i).2.1.length ≤ 1000) (hV : qWv Bd sk Rn dp W) (hD : ∀ i, i < 24 → (S i).2.2.2 ≤ 100) (hAl : ∀ i, i < 28 → ((S i).1 = 1 ∨ (S i).1 = 2) → ∀ k, xAl gr (S i).2.1 k ≤ 16) (hmk : qMk gr = mk) : qC l D cy N0 yX6_count cX6_count 2 (some .int) 50 1200 4 30 [.ref x, .int p0] h (fun v h' => (xs_count S (oCq W.1) (oMq W.1) p0).1 = 0 ∧ v = some (.int (xs_count S (oCq W.1) (oMq W.1) p0).2) ∧ zPo cy h x mk sl bl kr vr Ed bd br Im Xb S W h') (fun E h' => zXc [(1, "java/lang/IllegalArgumentException")] E (xs_count S (oCq W.1) (oMq W.1) p0).1 ∧ zPo cy h x mk sl bl kr vr Ed bd br Im Xb S W h') := by
  refine q_ofW (by decide) (by exact Nat.le_of_ble_eq_true rfl) ?_
  intro p e s m below meth c ls C hP hl
  have hx := C.1
  have hb := C.2.1
  have hS : va_S (qA N0) s.heap s.heap [] := va_S.rf
  have hl : lv_has ls 2 [(0, .ref x), (1, .int p0)] := hl
  have hf : zFr h h x sl kr vr bd br Xb := zFr.rf
  refine lv_iload_n hx hb dX6_count_0 rfl (lv_at hl 1 rfl) ?_
  refine lv_iconst (v := nI 3) hx hb dX6_count_1 (by decide) ?_
  refine q_callS (rest := []) C (c_X6_needWithin l D cy N0 h p0 3) kX6_needWithin g107 g108 hP hS (by first | decide | omega) hl.1 rfl (by decide) (by first | decide | omega) dX6_count_2 (fun q ce E h' H1 locs1 hE hP hS hc1 hc2 hc3 => by obtain ⟨rfl, rfl, hn9⟩ := hE; exact q_out C hP hS hc1 hc2 hc3 (by have ex : (xs_count S (oCq W.1) (oMq W.1) p0) = (1, 0) := (by unfold xs_count; rw [if_pos (bIn_f (fun z => hn9.elim z.1 (fun y => y z.2)))]); exact ⟨by rw [ex]; exact .head _, by exact hz.po hf⟩) (by omega)) (fun v hh1 H locs hq hP hS => ?_)
  obtain ⟨rfl, rfl, gw1, gw2⟩ := hq
  obtain ⟨wn, hwn, rfl⟩ := nI_of2 (M := 3) (n := 3) (by decide) gw1 gw2
  have ebw : bIn (nI wn) 3 = true := bIn_t ⟨gw1, gw2⟩
  rcases (show wn = 0 ∨ wn = 1 ∨ wn = 2 ∨ wn = 3 by omega) with rfl | rfl | rfl | rfl
  · refine lv_iload_n hx hb dX6_count_5 rfl (lv_at hl 1 rfl) ?_
    refine lv_tableIn (tgt := 32) (off := 26) hx hb dX6_count_6 (by decide +kernel) (by decide +kernel) (by decide +kernel) (by decide) ?_
    refine lv_aload_n hx hb dX6_count_32 rfl (lv_at hl 0 rfl) ?_
    refine q_get C hP hz.1.1 rfl inX6 5 (by decide) g73 rfl dX6_count_33 ?_
    have ex : (xs_count S (oCq W.1) (oMq W.1) (nI 0)) = (0, oCq W.1) := by unfold xs_count; rw [if_neg (by rw [ebw]; decide), if_pos (show nI 0 = 0 from rfl)]
    exact q_iret C hP hS ⟨by rw [ex], by first | (rw [ex]; done) | (rw [ex]), hz.po hf⟩ (by omega) dX6_count_36
  · refine lv_iload_n hx hb dX6_count_5 rfl (lv_at hl 1 rfl) ?_
    refine lv_tableIn (tgt := 37) (off := 31) hx hb dX6_count_6 (by decide +kernel) (by decide +kernel) (by decide +kernel) (by decide) ?_
    refine lv_aload_n hx hb dX6_count_37 rfl (lv_at hl 0 rfl) ?_
    refine q_get C hP hz.1.1 rfl inX6 6 (by decide) g74 rfl dX6_count_38 ?_
    have ex : (xs_count S (oCq W.1) (oMq W.1) (nI 1)) = (0, oMq W.1) := by unfold xs_count; rw [if_neg (by rw [ebw]; decide), if_neg (show ¬ nI 1 = 0 by decide), if_pos (show nI 1 = 1 from rfl)]
    exact q_iret C hP hS ⟨by rw [ex], by first | (rw [ex]; done) | (rw [ex]), hz.po hf⟩ (by omega) dX6_count_41
  · refine lv_iload_n hx hb dX6_count_5 rfl (lv_at hl 1 rfl) ?_
    refine lv_tableIn (tgt := 42) (off := 36) hx hb dX6_count_6 (by decide +kernel) (by decide +kernel) (by decide +kernel) (by decide) ?_
    refine lv_aload_n hx hb dX6_count_42 rfl (lv_at hl 0 rfl) ?_
    refine q_callV (rest := []) C (z_openB l D cy N0 h x mk sl bl kr vr Ed fs bd br eb Im Xb g S W Bd sk Rn dp hz hI hLn hV) kX6_openBuilders g1080 g1082 rfl gp36 g1 hP hS hz.1.1 (by first | decide | omega) hl.1 rfl (by decide) (by first | decide | omega) dX6_count_43 (fun q ce E h' H1 locs1 hE => hE.elim) (fun v hh2 H locs hq hP hS => ?_)
    obtain ⟨rfl, rfl⟩ := hq
    have ex : (xs_count S (oCq W.1) (oMq W.1) (nI 2)) = (0, nI (xOp S 4)) := by unfold xs_count; rw [if_neg (by rw [ebw]; decide), if_neg (show ¬ nI 2 = 0 by decide), if_neg (show ¬ nI 2 = 1 by decide), if_neg (show ¬ nI 2 = 3 by decide)]
    exact q_iret C hP hS ⟨by rw [ex], by first | (rw [ex]; done) | (rw [ex]), hz.po hf⟩ (by omega) dX6_count_46
  · refine lv_iload_n hx hb dX6_count_5 rfl (lv_at hl 1 rfl) ?_
    refine lv_tableOut (tgt := 47) hx hb dX6_count_6 (by decide +kernel) (by decide) ?_
    refine lv_aload_n hx hb dX6_count_47 rfl (lv_at hl 0 rfl) ?_
    refine q_callV (rest := []) C (z_unsound l D cy N0 h x mk sl bl kr vr Ed fs bd br eb Im Xb g S W Bd sk Rn dp gr hz hI hLn hV hD hAl hmk) kX6_unsoundSlots g1084 g1086 rfl gp37 g1 hP hS hz.1.1 (by first | decide | omega) hl.1 rfl (by decide) (by first | decide | omega) dX6_count_48 (fun q ce E h' H1 locs1 hE => hE.elim) (fun v hh3 H locs hq hP hS => ?_)
    obtain ⟨rfl, rfl⟩ := hq
    have ex : (xs_count S (oCq W.1) (oMq W.1) (nI 3)) = (0, nI 0) := by unfold xs_count; rw [if_neg (by rw [ebw]; decide), if_neg (show ¬ nI 3 = 0 by decide), if_neg (show ¬ nI 3 = 1 by decide), if_pos (show nI 3 = 3 from rfl)]; rfl
    exact q_iret C hP hS ⟨by rw [ex], by first | (rw [ex]; done) | (rw [ex]), hz.po hf⟩ (by omega) dX6_count_51
