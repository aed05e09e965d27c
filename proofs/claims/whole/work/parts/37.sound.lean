theorem q_suble {i j : Nat} (hi : i < 1000000) (hj : j < 1000000) (h : i ≤ j + 1) : ¬ nI 1 < nI i - nI j := by
  rw [Int32.lt_iff_toInt_lt, Int32.toInt_sub, nI_toInt (by omega), nI_toInt (by omega), nI_toInt (by omega)]
  unfold Int.bmod
  simp only []
  split <;> omega
theorem dJ9_max_7cf53_0 : decode cJ9_max_7cf53 0 = .ok (.iload_n 0, 1) := by decide +kernel
theorem dJ9_max_7cf53_1 : decode cJ9_max_7cf53 1 = .ok (.iload_n 1, 1) := by decide +kernel
theorem dJ9_max_7cf53_2 : decode cJ9_max_7cf53 2 = .ok (.if_icmp .lt 7, 3) := by decide +kernel
theorem dJ9_max_7cf53_5 : decode cJ9_max_7cf53 5 = .ok (.iload_n 0, 1) := by decide +kernel
theorem dJ9_max_7cf53_6 : decode cJ9_max_7cf53 6 = .ok (.goto 4, 3) := by decide +kernel
theorem dJ9_max_7cf53_9 : decode cJ9_max_7cf53 9 = .ok (.iload_n 1, 1) := by decide +kernel
theorem dJ9_max_7cf53_10 : decode cJ9_max_7cf53 10 = .ok (.ireturn, 1) := by decide +kernel
theorem c_J9_max (l : Launch) (D : va_G) (cy : Nat → ClassId) (N0 : Nat) (h : qH) (a b : Nat) (ha : a < 2 ^ 31) (hb9 : b < 2 ^ 31) : qC l D cy N0 yJ9_max_7cf53 cJ9_max_7cf53 2 (some .int) 0 0 0 0 [.int (nI a), .int (nI b)] h (fun v h' => v = some (.int (nI (max a b))) ∧ h = h') (fun E h' => False) := by
  refine q_ofWF (by decide +kernel) (by exact Nat.le_of_ble_eq_true rfl) ?_
  intro p e s m below meth c ls C hP hl
  have hx := C.1
  have hb := C.2.1
  have hS : va_S (qA N0) s.heap s.heap [] := va_S.rf
  have hl : lv_has ls 2 [(0, .int (nI a)), (1, .int (nI b))] := hl
  refine lv_iload_n hx hb dJ9_max_7cf53_0 rfl (lv_at hl 0 rfl) ?_
  refine lv_iload_n hx hb dJ9_max_7cf53_1 rfl (lv_at hl 1 rfl) ?_
  refine lv_icmp_lt (tgt := 9) hx hb dJ9_max_7cf53_2 (by decide) (fun c2 => ?_) (fun c2 => ?_)
  · replace c2 : a < b := (nI_ltI (a := a) (b := b) (by omega) (by omega)).mp c2
    refine lv_iload_n hx hb dJ9_max_7cf53_9 rfl (lv_at hl 1 rfl) ?_
    exact q_iret C hP hS ⟨congrArg (fun z => some (Value.int (nI z))) (by omega), rfl⟩ (by omega) dJ9_max_7cf53_10
  · replace c2 : ¬ a < b := fun zq => c2 ((nI_ltI (a := a) (b := b) (by omega) (by omega)).mpr zq)
    refine lv_iload_n hx hb dJ9_max_7cf53_5 rfl (lv_at hl 0 rfl) ?_
    refine lv_goto (tgt := 10) hx hb dJ9_max_7cf53_6 (by decide) ?_
    exact q_iret C hP hS ⟨congrArg (fun z => some (Value.int (nI z))) (by omega), rfl⟩ (by omega) dJ9_max_7cf53_10

theorem dX0_isSound_0 : decode cX0_isSound 0 = .ok (.aload_n 0, 1) := by decide +kernel
theorem dX0_isSound_1 : decode cX0_isSound 1 = .ok (.ifnonnull 5, 3) := by decide +kernel
theorem dX0_isSound_4 : decode cX0_isSound 4 = .ok (.iconst 1, 1) := by decide +kernel
theorem dX0_isSound_5 : decode cX0_isSound 5 = .ok (.ireturn, 1) := by decide +kernel
theorem dX0_isSound_6 : decode cX0_isSound 6 = .ok (.aload_n 0, 1) := by decide +kernel
theorem dX0_isSound_7 : decode cX0_isSound 7 = .ok (.getfield 7, 3) := by decide +kernel
theorem dX0_isSound_10 : decode cX0_isSound 10 = .ok (.invokestatic 30, 3) := by decide +kernel
theorem dX0_isSound_13 : decode cX0_isSound 13 = .ok (.istore_n 1, 1) := by decide +kernel
theorem dX0_isSound_14 : decode cX0_isSound 14 = .ok (.aload_n 0, 1) := by decide +kernel
theorem dX0_isSound_15 : decode cX0_isSound 15 = .ok (.getfield 20, 3) := by decide +kernel
theorem dX0_isSound_18 : decode cX0_isSound 18 = .ok (.invokestatic 30, 3) := by decide +kernel
theorem dX0_isSound_21 : decode cX0_isSound 21 = .ok (.istore_n 2, 1) := by decide +kernel
theorem dX0_isSound_22 : decode cX0_isSound 22 = .ok (.iload_n 1, 1) := by decide +kernel
theorem dX0_isSound_23 : decode cX0_isSound 23 = .ok (.iload_n 2, 1) := by decide +kernel
theorem dX0_isSound_24 : decode cX0_isSound 24 = .ok (.isub, 1) := by decide +kernel
theorem dX0_isSound_25 : decode cX0_isSound 25 = .ok (.iconst 1, 1) := by decide +kernel
theorem dX0_isSound_26 : decode cX0_isSound 26 = .ok (.if_icmp .gt 72, 3) := by decide +kernel
theorem dX0_isSound_29 : decode cX0_isSound 29 = .ok (.iload_n 2, 1) := by decide +kernel
theorem dX0_isSound_30 : decode cX0_isSound 30 = .ok (.iload_n 1, 1) := by decide +kernel
theorem dX0_isSound_31 : decode cX0_isSound 31 = .ok (.isub, 1) := by decide +kernel
theorem dX0_isSound_32 : decode cX0_isSound 32 = .ok (.iconst 1, 1) := by decide +kernel
theorem dX0_isSound_33 : decode cX0_isSound 33 = .ok (.if_icmp .gt 65, 3) := by decide +kernel
theorem dX0_isSound_36 : decode cX0_isSound 36 = .ok (.aload_n 0, 1) := by decide +kernel
theorem dX0_isSound_37 : decode cX0_isSound 37 = .ok (.getfield 23, 3) := by decide +kernel
theorem dX0_isSound_40 : decode cX0_isSound 40 = .ok (.iconst 1, 1) := by decide +kernel
theorem dX0_isSound_41 : decode cX0_isSound 41 = .ok (.iload_n 1, 1) := by decide +kernel
theorem dX0_isSound_42 : decode cX0_isSound 42 = .ok (.iload_n 2, 1) := by decide +kernel
theorem dX0_isSound_43 : decode cX0_isSound 43 = .ok (.invokestatic 101, 3) := by decide +kernel
theorem dX0_isSound_46 : decode cX0_isSound 46 = .ok (.iadd, 1) := by decide +kernel
theorem dX0_isSound_47 : decode cX0_isSound 47 = .ok (.if_icmp .ne 51, 3) := by decide +kernel
theorem dX0_isSound_50 : decode cX0_isSound 50 = .ok (.aload_n 0, 1) := by decide +kernel
theorem dX0_isSound_51 : decode cX0_isSound 51 = .ok (.getfield 27, 3) := by decide +kernel
theorem dX0_isSound_54 : decode cX0_isSound 54 = .ok (.iconst 1, 1) := by decide +kernel
theorem dX0_isSound_55 : decode cX0_isSound 55 = .ok (.aload_n 0, 1) := by decide +kernel
theorem dX0_isSound_56 : decode cX0_isSound 56 = .ok (.getfield 7, 3) := by decide +kernel
theorem dX0_isSound_59 : decode cX0_isSound 59 = .ok (.invokestatic 57, 3) := by decide +kernel
theorem dX0_isSound_62 : decode cX0_isSound 62 = .ok (.iadd, 1) := by decide +kernel
theorem dX0_isSound_63 : decode cX0_isSound 63 = .ok (.aload_n 0, 1) := by decide +kernel
theorem dX0_isSound_64 : decode cX0_isSound 64 = .ok (.getfield 20, 3) := by decide +kernel
theorem dX0_isSound_67 : decode cX0_isSound 67 = .ok (.invokestatic 57, 3) := by decide +kernel
theorem dX0_isSound_70 : decode cX0_isSound 70 = .ok (.iadd, 1) := by decide +kernel
theorem dX0_isSound_71 : decode cX0_isSound 71 = .ok (.if_icmp .ne 27, 3) := by decide +kernel
theorem dX0_isSound_74 : decode cX0_isSound 74 = .ok (.aload_n 0, 1) := by decide +kernel
theorem dX0_isSound_75 : decode cX0_isSound 75 = .ok (.getfield 7, 3) := by decide +kernel
theorem dX0_isSound_78 : decode cX0_isSound 78 = .ok (.invokestatic 107, 3) := by decide +kernel
theorem dX0_isSound_81 : decode cX0_isSound 81 = .ok (.ifCond .eq 17, 3) := by decide +kernel
theorem dX0_isSound_84 : decode cX0_isSound 84 = .ok (.aload_n 0, 1) := by decide +kernel
theorem dX0_isSound_85 : decode cX0_isSound 85 = .ok (.getfield 20, 3) := by decide +kernel
theorem dX0_isSound_88 : decode cX0_isSound 88 = .ok (.invokestatic 107, 3) := by decide +kernel
theorem dX0_isSound_91 : decode cX0_isSound 91 = .ok (.ifCond .eq 7, 3) := by decide +kernel
theorem dX0_isSound_94 : decode cX0_isSound 94 = .ok (.iconst 1, 1) := by decide +kernel
theorem dX0_isSound_95 : decode cX0_isSound 95 = .ok (.goto 4, 3) := by decide +kernel
theorem dX0_isSound_99 : decode cX0_isSound 99 = .ok (.ireturn, 1) := by decide +kernel
set_option maxRecDepth 100000 in
set_option maxHeartbeats 4000000 in
theorem c_X0_isSound (l : Launch) (D : va_G) (cy : Nat → ClassId) (N0 : Nat) (s : Nat) : ∀ (h : qH) (x : Option Nat) (n : Nat) (A : qKV) (hA : qBr h n x A) (hL : A.length < 1000000) (hs : n < s), qC l D cy N0 yX0_isSound cX0_isSound 3 (some .boolean) (1 + n) (21 + 22 * n) 0 0 [va_rf x] h (fun v h' => v = some (.int (nI 1)) ∧ h = h') (fun E h' => False) := by
  induction s with
  | zero => intro h x n A hA hL hs; exact absurd hs (Nat.not_lt_zero _)
  | succ s ih =>
    intro h x n A hA hL hs
    refine q_ofW (by decide) (by simp [lg_sl, q_catrf, q_cati, q_catl, q_cata, q_catn]) ?_
    intro p e s m below meth c ls C hP hl
    have hx := C.1
    have hb := C.2.1
    have hS : va_S (qA N0) s.heap s.heap [] := va_S.rf
    have hl : lv_has ls 3 [(0, va_rf x)] := hl
    have hle : qle h h := qle_rf
    rcases hA.inv with ⟨rfl, rfl, rfl⟩ | ⟨a1, l1, k1, v1, r1, i1, j1, A1, B1, rfl, f1, hl1, hr1, rfl, hg11, hg12, hg13, hg14, hg15, hg16⟩
    · refine lv_aload_nN hx hb dX0_isSound_0 rfl (lv_at hl 0 rfl) ?_
      refine lv_ifnonnullN hx hb dX0_isSound_1 ?_
      refine lv_iconst (v := nI 1) hx hb dX0_isSound_4 (by decide) ?_
      exact q_zret C hP hS (Or.inr rfl) ⟨rfl, rfl⟩ (by omega) dX0_isSound_5
    · have zl1 := hl1.len
      have zr1 := hr1.len
      have eL1 : (A1 ++ (k1, v1) :: B1).length = A1.length + (B1.length + 1) := by rw [List.length_append, List.length_cons]
      simp only [List.length_append, List.length_cons, List.length_nil] at hL
      refine lv_aload_n hx hb dX0_isSound_0 rfl (lv_at hl 0 rfl) ?_
      refine lv_ifnonnull (tgt := 6) hx hb dX0_isSound_1 (by decide) ?_
      refine lv_aload_n hx hb dX0_isSound_6 rfl (lv_at hl 0 rfl) ?_
      refine q_get C hP f1 rfl inX0 0 (by decide) g491 rfl dX0_isSound_7 ?_
      refine q_callS (rest := []) C (c_X0_heightOf l D cy N0 h l1 (nI i1) hl1.fiH) kX0_heightOf g475 g476 hP hS (by first | decide | omega) hl.1 rfl (by decide) (by first | decide | omega) dX0_isSound_10 (fun q ce E h' H1 locs1 hE => hE.elim) (fun v hh1 H locs hq hP hS => ?_)
      obtain ⟨rfl, rfl⟩ := hq
      refine lv_istore_n (lv' := [(1, .int (nI i1)), (0, .ref a1)]) hx hb dX0_isSound_13 rfl hl (by decide) rfl (fun ls hl => ?_)
      refine lv_aload_n hx hb dX0_isSound_14 rfl (lv_at hl 1 rfl) ?_
      refine q_get C hP f1 rfl inX0 3 (by decide) g497 rfl dX0_isSound_15 ?_
      refine q_callS (rest := []) C (c_X0_heightOf l D cy N0 h r1 (nI j1) hr1.fiH) kX0_heightOf g475 g476 hP hS (by first | decide | omega) hl.1 rfl (by decide) (by first | decide | omega) dX0_isSound_18 (fun q ce E h' H1 locs1 hE => hE.elim) (fun v hh2 H locs hq hP hS => ?_)
      obtain ⟨rfl, rfl⟩ := hq
      refine lv_istore_n (lv' := [(2, .int (nI j1)), (1, .int (nI i1)), (0, .ref a1)]) hx hb dX0_isSound_21 rfl hl (by decide) rfl (fun ls hl => ?_)
      refine lv_iload_n hx hb dX0_isSound_22 rfl (lv_at hl 1 rfl) ?_
      refine lv_iload_n hx hb dX0_isSound_23 rfl (lv_at hl 0 rfl) ?_
      refine lv_isub hx hb dX0_isSound_24 ?_
      refine lv_iconst (v := nI 1) hx hb dX0_isSound_25 (by decide) ?_
      refine lv_icmp_gt (tgt := 98) hx hb dX0_isSound_26 (by decide) (fun c => absurd c (q_suble (by omega) (by omega) (by omega))) (fun _ => ?_)
      refine lv_iload_n hx hb dX0_isSound_29 rfl (lv_at hl 0 rfl) ?_
      refine lv_iload_n hx hb dX0_isSound_30 rfl (lv_at hl 1 rfl) ?_
      refine lv_isub hx hb dX0_isSound_31 ?_
      refine lv_iconst (v := nI 1) hx hb dX0_isSound_32 (by decide) ?_
      refine lv_icmp_gt (tgt := 98) hx hb dX0_isSound_33 (by decide) (fun c => absurd c (q_suble (by omega) (by omega) (by omega))) (fun _ => ?_)
      refine lv_aload_n hx hb dX0_isSound_36 rfl (lv_at hl 2 rfl) ?_
      refine q_get C hP f1 rfl inX0 4 (by decide) g498 rfl dX0_isSound_37 ?_
      refine lv_iconst (v := nI 1) hx hb dX0_isSound_40 (by decide) ?_
      refine lv_iload_n hx hb dX0_isSound_41 rfl (lv_at hl 1 rfl) ?_
      refine lv_iload_n hx hb dX0_isSound_42 rfl (lv_at hl 0 rfl) ?_
      refine q_callS (rest := [.int (nI 1), .int (nI n)]) C (c_J9_max l D cy N0 h i1 j1 (by omega) (by omega)) kJ9_max_7cf53 g1096 g812 hP hS (by first | decide | omega) hl.1 rfl (by simp [q_catrf, q_cati, q_catl, q_cata, q_catn]) (by first | decide | omega) dX0_isSound_43 (fun q ce E h' H1 locs1 hE => hE.elim) (fun v hh3 H locs hq hP hS => ?_)
      obtain ⟨rfl, rfl⟩ := hq
      refine q_iaddN hx hb dX0_isSound_46 ?_
      refine lv_icmp_ne (tgt := 98) hx hb dX0_isSound_47 (by decide) (fun c47 => ?_) (fun c47 => ?_)
      · replace c47 : ¬ n = (1 + (max i1 j1)) := fun zq => c47 ((nI_eq (a := n) (b := (1 + (max i1 j1))) (by omega) (by omega)).mpr zq)
        exfalso; omega
      · replace c47 : n = (1 + (max i1 j1)) := (nI_eq (a := n) (b := (1 + (max i1 j1))) (by omega) (by omega)).mp c47
        refine lv_aload_n hx hb dX0_isSound_50 rfl (lv_at hl 2 rfl) ?_
        refine q_get C hP f1 rfl inX0 5 (by decide) g499 rfl dX0_isSound_51 ?_
        refine lv_iconst (v := nI 1) hx hb dX0_isSound_54 (by decide) ?_
        refine lv_aload_n hx hb dX0_isSound_55 rfl (lv_at hl 2 rfl) ?_
        refine q_get C hP f1 rfl inX0 0 (by decide) g491 rfl dX0_isSound_56 ?_
        refine q_callS (rest := [.int (nI 1), .int (nI (A1.length + 1 + B1.length))]) C (c_X0_sizeOf l D cy N0 h l1 (nI (A1.length)) hl1.fiS) kX0_sizeOf g594 g227 hP hS (by first | decide | omega) hl.1 rfl (by simp [q_catrf, q_cati, q_catl, q_cata, q_catn]) (by first | decide | omega) dX0_isSound_59 (fun q ce E h' H1 locs1 hE => hE.elim) (fun v hh4 H locs hq hP hS => ?_)
        obtain ⟨rfl, rfl⟩ := hq
        refine q_iaddN hx hb dX0_isSound_62 ?_
        refine lv_aload_n hx hb dX0_isSound_63 rfl (lv_at hl 2 rfl) ?_
        refine q_get C hP f1 rfl inX0 3 (by decide) g497 rfl dX0_isSound_64 ?_
        refine q_callS (rest := [.int (nI (1 + (A1.length))), .int (nI (A1.length + 1 + B1.length))]) C (c_X0_sizeOf l D cy N0 h r1 (nI (B1.length)) hr1.fiS) kX0_sizeOf g594 g227 hP hS (by first | decide | omega) hl.1 rfl (by simp [q_catrf, q_cati, q_catl, q_cata, q_catn]) (by first | decide | omega) dX0_isSound_67 (fun q ce E h' H1 locs1 hE => hE.elim) (fun v hh5 H locs hq hP hS => ?_)
        obtain ⟨rfl, rfl⟩ := hq
        refine q_iaddN hx hb dX0_isSound_70 ?_
        refine lv_icmp_ne (tgt := 98) hx hb dX0_isSound_71 (by decide) (fun c71 => ?_) (fun c71 => ?_)
        · replace c71 : ¬ (A1.length + 1 + B1.length) = ((1 + (A1.length)) + (B1.length)) := fun zq => c71 ((nI_eq (a := (A1.length + 1 + B1.length)) (b := ((1 + (A1.length)) + (B1.length))) (by omega) (by omega)).mpr zq)
          exfalso; omega
        · replace c71 : (A1.length + 1 + B1.length) = ((1 + (A1.length)) + (B1.length)) := (nI_eq (a := (A1.length + 1 + B1.length)) (b := ((1 + (A1.length)) + (B1.length))) (by omega) (by omega)).mp c71
          refine lv_aload_n hx hb dX0_isSound_74 rfl (lv_at hl 2 rfl) ?_
          refine q_get C hP f1 rfl inX0 0 (by decide) g491 rfl dX0_isSound_75 ?_
          refine q_callS (rest := []) C (ih h l1 i1 A1 hl1 (by omega) (by omega)) kX0_isSound g1097 g1094 hP hS (by first | decide | omega) hl.1 rfl (by decide) (by first | decide | omega) dX0_isSound_78 (fun q ce E h' H1 locs1 hE => hE.elim) (fun v hh6 H locs hq hP hS => ?_)
          obtain ⟨rfl, rfl⟩ := hq
          refine lv_if_eq (tgt := 98) hx hb dX0_isSound_81 (by decide) (fun c81 => ?_) (fun c81 => ?_)
          · replace c81 : 1 = 0 := (nI_eq (a := 1) (b := 0) (by omega) (by omega)).mp c81
            exfalso; omega
          · replace c81 : ¬ 1 = 0 := fun zq => c81 ((nI_eq (a := 1) (b := 0) (by omega) (by omega)).mpr zq)
            refine lv_aload_n hx hb dX0_isSound_84 rfl (lv_at hl 2 rfl) ?_
            refine q_get C hP f1 rfl inX0 3 (by decide) g497 rfl dX0_isSound_85 ?_
            refine q_callS (rest := []) C (ih h r1 j1 B1 hr1 (by omega) (by omega)) kX0_isSound g1097 g1094 hP hS (by first | decide | omega) hl.1 rfl (by decide) (by first | decide | omega) dX0_isSound_88 (fun q ce E h' H1 locs1 hE => hE.elim) (fun v hh7 H locs hq hP hS => ?_)
            obtain ⟨rfl, rfl⟩ := hq
            refine lv_if_eq (tgt := 98) hx hb dX0_isSound_91 (by decide) (fun c91 => ?_) (fun c91 => ?_)
            · replace c91 : 1 = 0 := (nI_eq (a := 1) (b := 0) (by omega) (by omega)).mp c91
              exfalso; omega
            · replace c91 : ¬ 1 = 0 := fun zq => c91 ((nI_eq (a := 1) (b := 0) (by omega) (by omega)).mpr zq)
              refine lv_iconst (v := nI 1) hx hb dX0_isSound_94 (by decide) ?_
              refine lv_goto (tgt := 99) hx hb dX0_isSound_95 (by decide) ?_
              exact q_zret C hP hS (Or.inr rfl) ⟨rfl, rfl⟩ (by omega) dX0_isSound_99

theorem q_lsub1 {k : Int64} (h : Int64.minValue.toInt < k.toInt) : (k - 1).toInt = k.toInt - 1 := by
  have e : Int64.minValue.toInt = -9223372036854775808 := by decide
  have u := Int64.toInt_lt k
  rw [Int64.toInt_sub, show (1 : Int64).toInt = 1 from by decide]
  unfold Int.bmod
  simp only []
  split <;> omega
theorem q_ladd1 {k : Int64} (h : k.toInt < Int64.maxValue.toInt) : (k + 1).toInt = k.toInt + 1 := by
  have e : Int64.maxValue.toInt = 9223372036854775807 := by decide
  have u := Int64.le_toInt k
  rw [Int64.toInt_add, show (1 : Int64).toInt = 1 from by decide]
  unfold Int.bmod
  simp only []
  split <;> omega
theorem q_lmin (k : Int64) : Int64.minValue.toInt ≤ k.toInt := by
  have e : Int64.minValue.toInt = -9223372036854775808 := by decide
  have u := Int64.le_toInt k
  omega
theorem q_lmax (k : Int64) : k.toInt ≤ Int64.maxValue.toInt := by
  have e : Int64.maxValue.toInt = 9223372036854775807 := by decide
  have u := Int64.toInt_lt k
  omega
theorem dX0_isSorted_0 : decode cX0_isSorted 0 = .ok (.aload_n 0, 1) := by decide +kernel
theorem dX0_isSorted_1 : decode cX0_isSorted 1 = .ok (.ifnonnull 5, 3) := by decide +kernel
theorem dX0_isSorted_4 : decode cX0_isSorted 4 = .ok (.iconst 1, 1) := by decide +kernel
theorem dX0_isSorted_5 : decode cX0_isSorted 5 = .ok (.ireturn, 1) := by decide +kernel
theorem dX0_isSorted_6 : decode cX0_isSorted 6 = .ok (.aload_n 0, 1) := by decide +kernel
theorem dX0_isSorted_7 : decode cX0_isSorted 7 = .ok (.getfield 13, 3) := by decide +kernel
theorem dX0_isSorted_10 : decode cX0_isSorted 10 = .ok (.lload_n 1, 1) := by decide +kernel
theorem dX0_isSorted_11 : decode cX0_isSorted 11 = .ok (.lcmp, 1) := by decide +kernel
theorem dX0_isSorted_12 : decode cX0_isSorted 12 = .ok (.ifCond .lt 12, 3) := by decide +kernel
theorem dX0_isSorted_15 : decode cX0_isSorted 15 = .ok (.aload_n 0, 1) := by decide +kernel
theorem dX0_isSorted_16 : decode cX0_isSorted 16 = .ok (.getfield 13, 3) := by decide +kernel
theorem dX0_isSorted_19 : decode cX0_isSorted 19 = .ok (.lload_n 3, 1) := by decide +kernel
theorem dX0_isSorted_20 : decode cX0_isSorted 20 = .ok (.lcmp, 1) := by decide +kernel
theorem dX0_isSorted_21 : decode cX0_isSorted 21 = .ok (.ifCond .le 5, 3) := by decide +kernel
theorem dX0_isSorted_26 : decode cX0_isSorted 26 = .ok (.aload_n 0, 1) := by decide +kernel
theorem dX0_isSorted_27 : decode cX0_isSorted 27 = .ok (.getfield 13, 3) := by decide +kernel
theorem dX0_isSorted_30 : decode cX0_isSorted 30 = .ok (.lload_n 1, 1) := by decide +kernel
theorem dX0_isSorted_31 : decode cX0_isSorted 31 = .ok (.lcmp, 1) := by decide +kernel
theorem dX0_isSorted_32 : decode cX0_isSorted 32 = .ok (.ifCond .ne 18, 3) := by decide +kernel
theorem dX0_isSorted_35 : decode cX0_isSorted 35 = .ok (.aload_n 0, 1) := by decide +kernel
theorem dX0_isSorted_36 : decode cX0_isSorted 36 = .ok (.getfield 7, 3) := by decide +kernel
theorem dX0_isSorted_39 : decode cX0_isSorted 39 = .ok (.ifnonnull 7, 3) := by decide +kernel
theorem dX0_isSorted_42 : decode cX0_isSorted 42 = .ok (.iconst 1, 1) := by decide +kernel
theorem dX0_isSorted_43 : decode cX0_isSorted 43 = .ok (.goto 21, 3) := by decide +kernel
theorem dX0_isSorted_50 : decode cX0_isSorted 50 = .ok (.aload_n 0, 1) := by decide +kernel
theorem dX0_isSorted_51 : decode cX0_isSorted 51 = .ok (.getfield 7, 3) := by decide +kernel
theorem dX0_isSorted_54 : decode cX0_isSorted 54 = .ok (.lload_n 1, 1) := by decide +kernel
theorem dX0_isSorted_55 : decode cX0_isSorted 55 = .ok (.aload_n 0, 1) := by decide +kernel
theorem dX0_isSorted_56 : decode cX0_isSorted 56 = .ok (.getfield 13, 3) := by decide +kernel
theorem dX0_isSorted_59 : decode cX0_isSorted 59 = .ok (.lconst 1, 1) := by decide +kernel
theorem dX0_isSorted_60 : decode cX0_isSorted 60 = .ok (.lsub, 1) := by decide +kernel
theorem dX0_isSorted_61 : decode cX0_isSorted 61 = .ok (.invokestatic 111, 3) := by decide +kernel
theorem dX0_isSorted_64 : decode cX0_isSorted 64 = .ok (.istore 5, 2) := by decide +kernel
theorem dX0_isSorted_66 : decode cX0_isSorted 66 = .ok (.aload_n 0, 1) := by decide +kernel
theorem dX0_isSorted_67 : decode cX0_isSorted 67 = .ok (.getfield 13, 3) := by decide +kernel
theorem dX0_isSorted_70 : decode cX0_isSorted 70 = .ok (.lload_n 3, 1) := by decide +kernel
theorem dX0_isSorted_71 : decode cX0_isSorted 71 = .ok (.lcmp, 1) := by decide +kernel
theorem dX0_isSorted_72 : decode cX0_isSorted 72 = .ok (.ifCond .ne 18, 3) := by decide +kernel
theorem dX0_isSorted_75 : decode cX0_isSorted 75 = .ok (.aload_n 0, 1) := by decide +kernel
theorem dX0_isSorted_76 : decode cX0_isSorted 76 = .ok (.getfield 20, 3) := by decide +kernel
theorem dX0_isSorted_79 : decode cX0_isSorted 79 = .ok (.ifnonnull 7, 3) := by decide +kernel
theorem dX0_isSorted_82 : decode cX0_isSorted 82 = .ok (.iconst 1, 1) := by decide +kernel
theorem dX0_isSorted_83 : decode cX0_isSorted 83 = .ok (.goto 21, 3) := by decide +kernel
theorem dX0_isSorted_90 : decode cX0_isSorted 90 = .ok (.aload_n 0, 1) := by decide +kernel
theorem dX0_isSorted_91 : decode cX0_isSorted 91 = .ok (.getfield 20, 3) := by decide +kernel
theorem dX0_isSorted_94 : decode cX0_isSorted 94 = .ok (.aload_n 0, 1) := by decide +kernel
theorem dX0_isSorted_95 : decode cX0_isSorted 95 = .ok (.getfield 13, 3) := by decide +kernel
theorem dX0_isSorted_98 : decode cX0_isSorted 98 = .ok (.lconst 1, 1) := by decide +kernel
theorem dX0_isSorted_99 : decode cX0_isSorted 99 = .ok (.ladd, 1) := by decide +kernel
theorem dX0_isSorted_100 : decode cX0_isSorted 100 = .ok (.lload_n 3, 1) := by decide +kernel
theorem dX0_isSorted_101 : decode cX0_isSorted 101 = .ok (.invokestatic 111, 3) := by decide +kernel
theorem dX0_isSorted_104 : decode cX0_isSorted 104 = .ok (.istore 6, 2) := by decide +kernel
theorem dX0_isSorted_106 : decode cX0_isSorted 106 = .ok (.iload 5, 2) := by decide +kernel
theorem dX0_isSorted_108 : decode cX0_isSorted 108 = .ok (.ifCond .eq 12, 3) := by decide +kernel
theorem dX0_isSorted_111 : decode cX0_isSorted 111 = .ok (.iload 6, 2) := by decide +kernel
theorem dX0_isSorted_113 : decode cX0_isSorted 113 = .ok (.ifCond .eq 7, 3) := by decide +kernel
theorem dX0_isSorted_116 : decode cX0_isSorted 116 = .ok (.iconst 1, 1) := by decide +kernel
theorem dX0_isSorted_117 : decode cX0_isSorted 117 = .ok (.goto 4, 3) := by decide +kernel
theorem dX0_isSorted_121 : decode cX0_isSorted 121 = .ok (.ireturn, 1) := by decide +kernel
set_option maxRecDepth 100000 in
set_option maxHeartbeats 4000000 in
theorem c_X0_isSorted (l : Launch) (D : va_G) (cy : Nat → ClassId) (N0 : Nat) (s : Nat) : ∀ (h : qH) (x : Option Nat) (n : Nat) (A : qKV) (a0 b0 : Int64) (hA : qBr h n x A) (hL : A.length < 1000000) (hS0 : qSo A) (hR : ∀ p ∈ A, a0.toInt ≤ p.1.toInt ∧ p.1.toInt ≤ b0.toInt) (hs : n < s), qC l D cy N0 yX0_isSorted cX0_isSorted 7 (some .boolean) (1 + n) (26 * n) 0 0 [va_rf x, .long a0, .long b0] h (fun v h' => v = some (.int (nI 1)) ∧ h = h') (fun E h' => False) := by
  induction s with
  | zero => intro h x n A a0 b0 hA hL hS0 hR hs; exact absurd hs (Nat.not_lt_zero _)
  | succ s ih =>
    intro h x n A a0 b0 hA hL hS0 hR hs
    refine q_ofW (by decide) (by simp [lg_sl, q_catrf, q_cati, q_catl, q_cata, q_catn]) ?_
    intro p e s m below meth c ls C hP hl
    have hx := C.1
    have hb := C.2.1
    have hS : va_S (qA N0) s.heap s.heap [] := va_S.rf
    have hl : lv_has ls 7 [(0, va_rf x), (1, .long a0), (3, .long b0)] := by simpa [lv_args, q_catrf, q_cati, q_catl, q_cata, q_catn] using hl
    have hle : qle h h := qle_rf
    rcases hA.inv with ⟨rfl, rfl, rfl⟩ | ⟨a1, l1, k1, v1, r1, i1, j1, A1, B1, rfl, f1, hl1, hr1, rfl, hg11, hg12, hg13, hg14, hg15, hg16⟩
    · refine lv_aload_nN hx hb dX0_isSorted_0 rfl (lv_at hl 0 rfl) ?_
      refine lv_ifnonnullN hx hb dX0_isSorted_1 ?_
      refine lv_iconst (v := nI 1) hx hb dX0_isSorted_4 (by decide) ?_
      exact q_zret C hP hS (Or.inr rfl) ⟨rfl, rfl⟩ (by omega) dX0_isSorted_5
    · have zl1 := hl1.len
      have zr1 := hr1.len
      have eL1 : (A1 ++ (k1, v1) :: B1).length = A1.length + (B1.length + 1) := by rw [List.length_append, List.length_cons]
      simp only [List.length_append, List.length_cons, List.length_nil] at hL
      obtain ⟨sA, sB, lA, lB⟩ := hS0.node
      obtain ⟨q1, q2⟩ : a0.toInt ≤ k1.toInt ∧ k1.toInt ≤ b0.toInt := hR (k1, v1) (by simp)
      refine lv_aload_n hx hb dX0_isSorted_0 rfl (lv_at hl 0 rfl) ?_
      refine lv_ifnonnull (tgt := 6) hx hb dX0_isSorted_1 (by decide) ?_
      refine lv_aload_n hx hb dX0_isSorted_6 rfl (lv_at hl 0 rfl) ?_
      refine q_get C hP f1 rfl inX0 1 (by decide) g492 rfl dX0_isSorted_7 ?_
      refine lv_lload_n hx hb dX0_isSorted_10 rfl (lv_at hl 1 rfl) ?_
      refine W.lcmp hx hb dX0_isSorted_11 ?_
      refine lv_if_lt (tgt := 24) hx hb dX0_isSorted_12 (by decide) (fun c12 => ?_) (fun c12 => ?_)
      · replace c12 : k1.toInt < a0.toInt := Int64.lt_iff_toInt_lt.mp ((lg_cmp_lt _ _).mp c12)
        exfalso; omega
      · replace c12 : ¬ k1.toInt < a0.toInt := fun zq => c12 ((lg_cmp_lt _ _).mpr (Int64.lt_iff_toInt_lt.mpr zq))
        refine lv_aload_n hx hb dX0_isSorted_15 rfl (lv_at hl 0 rfl) ?_
        refine q_get C hP f1 rfl inX0 1 (by decide) g492 rfl dX0_isSorted_16 ?_
        refine lv_lload_n hx hb dX0_isSorted_19 rfl (lv_at hl 2 rfl) ?_
        refine W.lcmp hx hb dX0_isSorted_20 ?_
        refine lv_if_le (tgt := 26) hx hb dX0_isSorted_21 (by decide) (fun c21 => ?_) (fun c21 => ?_)
        · replace c21 : k1.toInt ≤ b0.toInt := Int64.le_iff_toInt_le.mp ((lg_cmp_le _ _).mp c21)
          refine lv_aload_n hx hb dX0_isSorted_26 rfl (lv_at hl 0 rfl) ?_
          refine q_get C hP f1 rfl inX0 1 (by decide) g492 rfl dX0_isSorted_27 ?_
          refine lv_lload_n hx hb dX0_isSorted_30 rfl (lv_at hl 1 rfl) ?_
          refine W.lcmp hx hb dX0_isSorted_31 ?_
          refine lv_if_ne (tgt := 50) hx hb dX0_isSorted_32 (by decide) (fun c32 => ?_) (fun c32 => ?_)
          · replace c32 : ¬ k1.toInt = a0.toInt := fun zq => c32 ((lg_cmp_eq _ _).mpr (Int64.toInt_inj.symm.mpr zq))
            refine lv_aload_n hx hb dX0_isSorted_50 rfl (lv_at hl 0 rfl) ?_
            refine q_get C hP f1 rfl inX0 0 (by decide) g491 rfl dX0_isSorted_51 ?_
            refine lv_lload_n hx hb dX0_isSorted_54 rfl (lv_at hl 1 rfl) ?_
            refine lv_aload_n hx hb dX0_isSorted_55 rfl (lv_at hl 0 rfl) ?_
            refine q_get C hP f1 rfl inX0 1 (by decide) g492 rfl dX0_isSorted_56 ?_
            refine lv_lconst (v := 1) hx hb dX0_isSorted_59 (by decide) ?_
            refine lv_lsub hx hb dX0_isSorted_60 ?_
            refine q_callS (rest := []) C (ih h l1 i1 A1 a0 (k1 - 1) hl1 (by omega) sA (fun p hp => ⟨(hR p (List.mem_append_left _ hp)).1, by have := lA p hp; rw [q_lsub1 (Int.lt_of_le_of_lt (q_lmin a0) (by omega))]; have : p.1.toInt < k1.toInt := this; omega⟩) (by omega)) kX0_isSorted g1103 g1101 hP hS (by first | decide | omega) hl.1 rfl (by decide) (by first | decide | omega) dX0_isSorted_61 (fun q ce E h' H1 locs1 hE => hE.elim) (fun v hh1 H locs hq hP hS => ?_)
            obtain ⟨rfl, rfl⟩ := hq
            refine lv_istore (lv' := [(5, .int (nI 1)), (0, .ref a1), (1, .long a0), (3, .long b0)]) hx hb dX0_isSorted_64 hl (by decide) rfl (fun ls hl => ?_)
            refine lv_aload_n hx hb dX0_isSorted_66 rfl (lv_at hl 1 rfl) ?_
            refine q_get C hP f1 rfl inX0 1 (by decide) g492 rfl dX0_isSorted_67 ?_
            refine lv_lload_n hx hb dX0_isSorted_70 rfl (lv_at hl 3 rfl) ?_
            refine W.lcmp hx hb dX0_isSorted_71 ?_
            refine lv_if_ne (tgt := 90) hx hb dX0_isSorted_72 (by decide) (fun c72 => ?_) (fun c72 => ?_)
            · replace c72 : ¬ k1.toInt = b0.toInt := fun zq => c72 ((lg_cmp_eq _ _).mpr (Int64.toInt_inj.symm.mpr zq))
              refine lv_aload_n hx hb dX0_isSorted_90 rfl (lv_at hl 1 rfl) ?_
              refine q_get C hP f1 rfl inX0 3 (by decide) g497 rfl dX0_isSorted_91 ?_
              refine lv_aload_n hx hb dX0_isSorted_94 rfl (lv_at hl 1 rfl) ?_
              refine q_get C hP f1 rfl inX0 1 (by decide) g492 rfl dX0_isSorted_95 ?_
              refine lv_lconst (v := 1) hx hb dX0_isSorted_98 (by decide) ?_
              refine lv_ladd hx hb dX0_isSorted_99 ?_
              refine lv_lload_n hx hb dX0_isSorted_100 rfl (lv_at hl 3 rfl) ?_
              refine q_callS (rest := []) C (ih h r1 j1 B1 (k1 + 1) b0 hr1 (by omega) sB (fun p hp => ⟨by have := lB p hp; rw [q_ladd1 (Int.lt_of_lt_of_le (show k1.toInt < b0.toInt by omega) (q_lmax b0))]; have : k1.toInt < p.1.toInt := this; omega, (hR p (List.mem_append_right _ (List.mem_cons_of_mem _ hp))).2⟩) (by omega)) kX0_isSorted g1103 g1101 hP hS (by first | decide | omega) hl.1 rfl (by decide) (by first | decide | omega) dX0_isSorted_101 (fun q ce E h' H1 locs1 hE => hE.elim) (fun v hh2 H locs hq hP hS => ?_)
              obtain ⟨rfl, rfl⟩ := hq
              refine lv_istore (lv' := [(6, .int (nI 1)), (5, .int (nI 1)), (0, .ref a1), (1, .long a0), (3, .long b0)]) hx hb dX0_isSorted_104 hl (by decide) rfl (fun ls hl => ?_)
              refine lv_iload hx hb dX0_isSorted_106 (lv_at hl 1 rfl) ?_
              refine lv_if_eq (tgt := 120) hx hb dX0_isSorted_108 (by decide) (fun c108 => ?_) (fun c108 => ?_)
              · replace c108 : 1 = 0 := (nI_eq (a := 1) (b := 0) (by omega) (by omega)).mp c108
                exfalso; omega
              · replace c108 : ¬ 1 = 0 := fun zq => c108 ((nI_eq (a := 1) (b := 0) (by omega) (by omega)).mpr zq)
                refine lv_iload hx hb dX0_isSorted_111 (lv_at hl 0 rfl) ?_
                refine lv_if_eq (tgt := 120) hx hb dX0_isSorted_113 (by decide) (fun c113 => ?_) (fun c113 => ?_)
                · replace c113 : 1 = 0 := (nI_eq (a := 1) (b := 0) (by omega) (by omega)).mp c113
                  exfalso; omega
                · replace c113 : ¬ 1 = 0 := fun zq => c113 ((nI_eq (a := 1) (b := 0) (by omega) (by omega)).mpr zq)
                  refine lv_iconst (v := nI 1) hx hb dX0_isSorted_116 (by decide) ?_
                  refine lv_goto (tgt := 121) hx hb dX0_isSorted_117 (by decide) ?_
                  exact q_zret C hP hS (Or.inr rfl) ⟨rfl, rfl⟩ (by omega) dX0_isSorted_121
            · replace c72 : k1.toInt = b0.toInt := Int64.toInt_inj.symm.mp ((lg_cmp_eq _ _).mp c72)
              refine lv_aload_n hx hb dX0_isSorted_75 rfl (lv_at hl 1 rfl) ?_
              refine q_get C hP f1 rfl inX0 3 (by decide) g497 rfl dX0_isSorted_76 ?_
              have e79 : r1 = none := by
                rcases hr1.inv with ⟨-, q, -⟩ | ⟨a5, l5, k5, v5, r5, i5, j5, A5, B5, -, -, -, -, e5, -⟩
                · exact q
                · exfalso; have m5 : (k5, v5) ∈ B1 := by rw [e5]; simp
                  have u5 : k1.toInt < k5.toInt := lB _ m5
                  have w5 : k5.toInt ≤ b0.toInt := (hR _ (List.mem_append_right _ (List.mem_cons_of_mem _ m5))).2
                  omega
              rw [e79]
              refine lv_ifnonnullN hx hb dX0_isSorted_79 ?_
              refine lv_iconst (v := nI 1) hx hb dX0_isSorted_82 (by decide) ?_
              refine lv_goto (tgt := 104) hx hb dX0_isSorted_83 (by decide) ?_
              refine lv_istore (lv' := [(6, .int (nI 1)), (5, .int (nI 1)), (0, .ref a1), (1, .long a0), (3, .long b0)]) hx hb dX0_isSorted_104 hl (by decide) rfl (fun ls hl => ?_)
              refine lv_iload hx hb dX0_isSorted_106 (lv_at hl 1 rfl) ?_
              refine lv_if_eq (tgt := 120) hx hb dX0_isSorted_108 (by decide) (fun c108 => ?_) (fun c108 => ?_)
              · replace c108 : 1 = 0 := (nI_eq (a := 1) (b := 0) (by omega) (by omega)).mp c108
                exfalso; omega
              · replace c108 : ¬ 1 = 0 := fun zq => c108 ((nI_eq (a := 1) (b := 0) (by omega) (by omega)).mpr zq)
                refine lv_iload hx hb dX0_isSorted_111 (lv_at hl 0 rfl) ?_
                refine lv_if_eq (tgt := 120) hx hb dX0_isSorted_113 (by decide) (fun c113 => ?_) (fun c113 => ?_)
                · replace c113 : 1 = 0 := (nI_eq (a := 1) (b := 0) (by omega) (by omega)).mp c113
                  exfalso; omega
                · replace c113 : ¬ 1 = 0 := fun zq => c113 ((nI_eq (a := 1) (b := 0) (by omega) (by omega)).mpr zq)
                  refine lv_iconst (v := nI 1) hx hb dX0_isSorted_116 (by decide) ?_
                  refine lv_goto (tgt := 121) hx hb dX0_isSorted_117 (by decide) ?_
                  exact q_zret C hP hS (Or.inr rfl) ⟨rfl, rfl⟩ (by omega) dX0_isSorted_121
          · replace c32 : k1.toInt = a0.toInt := Int64.toInt_inj.symm.mp ((lg_cmp_eq _ _).mp c32)
            refine lv_aload_n hx hb dX0_isSorted_35 rfl (lv_at hl 0 rfl) ?_
            refine q_get C hP f1 rfl inX0 0 (by decide) g491 rfl dX0_isSorted_36 ?_
            have e39 : l1 = none := by
              rcases hl1.inv with ⟨-, q, -⟩ | ⟨a5, l5, k5, v5, r5, i5, j5, A5, B5, -, -, -, -, e5, -⟩
              · exact q
              · exfalso; have m5 : (k5, v5) ∈ A1 := by rw [e5]; simp
                have u5 : k5.toInt < k1.toInt := lA _ m5
                have w5 : a0.toInt ≤ k5.toInt := (hR _ (List.mem_append_left _ m5)).1
                omega
            rw [e39]
            refine lv_ifnonnullN hx hb dX0_isSorted_39 ?_
            refine lv_iconst (v := nI 1) hx hb dX0_isSorted_42 (by decide) ?_
            refine lv_goto (tgt := 64) hx hb dX0_isSorted_43 (by decide) ?_
            refine lv_istore (lv' := [(5, .int (nI 1)), (0, .ref a1), (1, .long a0), (3, .long b0)]) hx hb dX0_isSorted_64 hl (by decide) rfl (fun ls hl => ?_)
            refine lv_aload_n hx hb dX0_isSorted_66 rfl (lv_at hl 1 rfl) ?_
            refine q_get C hP f1 rfl inX0 1 (by decide) g492 rfl dX0_isSorted_67 ?_
            refine lv_lload_n hx hb dX0_isSorted_70 rfl (lv_at hl 3 rfl) ?_
            refine W.lcmp hx hb dX0_isSorted_71 ?_
            refine lv_if_ne (tgt := 90) hx hb dX0_isSorted_72 (by decide) (fun c72 => ?_) (fun c72 => ?_)
            · replace c72 : ¬ k1.toInt = b0.toInt := fun zq => c72 ((lg_cmp_eq _ _).mpr (Int64.toInt_inj.symm.mpr zq))
              refine lv_aload_n hx hb dX0_isSorted_90 rfl (lv_at hl 1 rfl) ?_
              refine q_get C hP f1 rfl inX0 3 (by decide) g497 rfl dX0_isSorted_91 ?_
              refine lv_aload_n hx hb dX0_isSorted_94 rfl (lv_at hl 1 rfl) ?_
              refine q_get C hP f1 rfl inX0 1 (by decide) g492 rfl dX0_isSorted_95 ?_
              refine lv_lconst (v := 1) hx hb dX0_isSorted_98 (by decide) ?_
              refine lv_ladd hx hb dX0_isSorted_99 ?_
              refine lv_lload_n hx hb dX0_isSorted_100 rfl (lv_at hl 3 rfl) ?_
              refine q_callS (rest := []) C (ih h r1 j1 B1 (k1 + 1) b0 hr1 (by omega) sB (fun p hp => ⟨by have := lB p hp; rw [q_ladd1 (Int.lt_of_lt_of_le (show k1.toInt < b0.toInt by omega) (q_lmax b0))]; have : k1.toInt < p.1.toInt := this; omega, (hR p (List.mem_append_right _ (List.mem_cons_of_mem _ hp))).2⟩) (by omega)) kX0_isSorted g1103 g1101 hP hS (by first | decide | omega) hl.1 rfl (by decide) (by first | decide | omega) dX0_isSorted_101 (fun q ce E h' H1 locs1 hE => hE.elim) (fun v hh3 H locs hq hP hS => ?_)
              obtain ⟨rfl, rfl⟩ := hq
              refine lv_istore (lv' := [(6, .int (nI 1)), (5, .int (nI 1)), (0, .ref a1), (1, .long a0), (3, .long b0)]) hx hb dX0_isSorted_104 hl (by decide) rfl (fun ls hl => ?_)
              refine lv_iload hx hb dX0_isSorted_106 (lv_at hl 1 rfl) ?_
              refine lv_if_eq (tgt := 120) hx hb dX0_isSorted_108 (by decide) (fun c108 => ?_) (fun c108 => ?_)
              · replace c108 : 1 = 0 := (nI_eq (a := 1) (b := 0) (by omega) (by omega)).mp c108
                exfalso; omega
              · replace c108 : ¬ 1 = 0 := fun zq => c108 ((nI_eq (a := 1) (b := 0) (by omega) (by omega)).mpr zq)
                refine lv_iload hx hb dX0_isSorted_111 (lv_at hl 0 rfl) ?_
                refine lv_if_eq (tgt := 120) hx hb dX0_isSorted_113 (by decide) (fun c113 => ?_) (fun c113 => ?_)
                · replace c113 : 1 = 0 := (nI_eq (a := 1) (b := 0) (by omega) (by omega)).mp c113
                  exfalso; omega
                · replace c113 : ¬ 1 = 0 := fun zq => c113 ((nI_eq (a := 1) (b := 0) (by omega) (by omega)).mpr zq)
                  refine lv_iconst (v := nI 1) hx hb dX0_isSorted_116 (by decide) ?_
                  refine lv_goto (tgt := 121) hx hb dX0_isSorted_117 (by decide) ?_
                  exact q_zret C hP hS (Or.inr rfl) ⟨rfl, rfl⟩ (by omega) dX0_isSorted_121
            · replace c72 : k1.toInt = b0.toInt := Int64.toInt_inj.symm.mp ((lg_cmp_eq _ _).mp c72)
              refine lv_aload_n hx hb dX0_isSorted_75 rfl (lv_at hl 1 rfl) ?_
              refine q_get C hP f1 rfl inX0 3 (by decide) g497 rfl dX0_isSorted_76 ?_
              have e79 : r1 = none := by
                rcases hr1.inv with ⟨-, q, -⟩ | ⟨a5, l5, k5, v5, r5, i5, j5, A5, B5, -, -, -, -, e5, -⟩
                · exact q
                · exfalso; have m5 : (k5, v5) ∈ B1 := by rw [e5]; simp
                  have u5 : k1.toInt < k5.toInt := lB _ m5
                  have w5 : k5.toInt ≤ b0.toInt := (hR _ (List.mem_append_right _ (List.mem_cons_of_mem _ m5))).2
                  omega
              rw [e79]
              refine lv_ifnonnullN hx hb dX0_isSorted_79 ?_
              refine lv_iconst (v := nI 1) hx hb dX0_isSorted_82 (by decide) ?_
              refine lv_goto (tgt := 104) hx hb dX0_isSorted_83 (by decide) ?_
              refine lv_istore (lv' := [(6, .int (nI 1)), (5, .int (nI 1)), (0, .ref a1), (1, .long a0), (3, .long b0)]) hx hb dX0_isSorted_104 hl (by decide) rfl (fun ls hl => ?_)
              refine lv_iload hx hb dX0_isSorted_106 (lv_at hl 1 rfl) ?_
              refine lv_if_eq (tgt := 120) hx hb dX0_isSorted_108 (by decide) (fun c108 => ?_) (fun c108 => ?_)
              · replace c108 : 1 = 0 := (nI_eq (a := 1) (b := 0) (by omega) (by omega)).mp c108
                exfalso; omega
              · replace c108 : ¬ 1 = 0 := fun zq => c108 ((nI_eq (a := 1) (b := 0) (by omega) (by omega)).mpr zq)
                refine lv_iload hx hb dX0_isSorted_111 (lv_at hl 0 rfl) ?_
                refine lv_if_eq (tgt := 120) hx hb dX0_isSorted_113 (by decide) (fun c113 => ?_) (fun c113 => ?_)
                · replace c113 : 1 = 0 := (nI_eq (a := 1) (b := 0) (by omega) (by omega)).mp c113
                  exfalso; omega
                · replace c113 : ¬ 1 = 0 := fun zq => c113 ((nI_eq (a := 1) (b := 0) (by omega) (by omega)).mpr zq)
                  refine lv_iconst (v := nI 1) hx hb dX0_isSorted_116 (by decide) ?_
                  refine lv_goto (tgt := 121) hx hb dX0_isSorted_117 (by decide) ?_
                  exact q_zret C hP hS (Or.inr rfl) ⟨rfl, rfl⟩ (by omega) dX0_isSorted_121
        · replace c21 : ¬ k1.toInt ≤ b0.toInt := fun zq => c21 ((lg_cmp_le _ _).mpr (Int64.le_iff_toInt_le.mpr zq))
          exfalso; omega
