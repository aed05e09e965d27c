theorem dX0_init_0 : decode cX0_init 0 = .ok (.aload_n 0, 1) := by decide +kernel
theorem dX0_init_1 : decode cX0_init 1 = .ok (.invokespecial 1, 3) := by decide +kernel
theorem dX0_init_4 : decode cX0_init 4 = .ok (.aload_n 0, 1) := by decide +kernel
theorem dX0_init_5 : decode cX0_init 5 = .ok (.aload_n 1, 1) := by decide +kernel
theorem dX0_init_6 : decode cX0_init 6 = .ok (.putfield 7, 3) := by decide +kernel
theorem dX0_init_9 : decode cX0_init 9 = .ok (.aload_n 0, 1) := by decide +kernel
theorem dX0_init_10 : decode cX0_init 10 = .ok (.lload_n 2, 1) := by decide +kernel
theorem dX0_init_11 : decode cX0_init 11 = .ok (.putfield 13, 3) := by decide +kernel
theorem dX0_init_14 : decode cX0_init 14 = .ok (.aload_n 0, 1) := by decide +kernel
theorem dX0_init_15 : decode cX0_init 15 = .ok (.lload 4, 2) := by decide +kernel
theorem dX0_init_17 : decode cX0_init 17 = .ok (.putfield 17, 3) := by decide +kernel
theorem dX0_init_20 : decode cX0_init 20 = .ok (.aload_n 0, 1) := by decide +kernel
theorem dX0_init_21 : decode cX0_init 21 = .ok (.aload 6, 2) := by decide +kernel
theorem dX0_init_23 : decode cX0_init 23 = .ok (.putfield 20, 3) := by decide +kernel
theorem dX0_init_26 : decode cX0_init 26 = .ok (.aload_n 1, 1) := by decide +kernel
theorem dX0_init_27 : decode cX0_init 27 = .ok (.ifnonnull 7, 3) := by decide +kernel
theorem dX0_init_30 : decode cX0_init 30 = .ok (.iconst 0, 1) := by decide +kernel
theorem dX0_init_31 : decode cX0_init 31 = .ok (.goto 7, 3) := by decide +kernel
theorem dX0_init_34 : decode cX0_init 34 = .ok (.aload_n 1, 1) := by decide +kernel
theorem dX0_init_35 : decode cX0_init 35 = .ok (.getfield 23, 3) := by decide +kernel
theorem dX0_init_38 : decode cX0_init 38 = .ok (.istore 7, 2) := by decide +kernel
theorem dX0_init_40 : decode cX0_init 40 = .ok (.aload 6, 2) := by decide +kernel
theorem dX0_init_42 : decode cX0_init 42 = .ok (.ifnonnull 7, 3) := by decide +kernel
theorem dX0_init_45 : decode cX0_init 45 = .ok (.iconst 0, 1) := by decide +kernel
theorem dX0_init_46 : decode cX0_init 46 = .ok (.goto 8, 3) := by decide +kernel
theorem dX0_init_49 : decode cX0_init 49 = .ok (.aload 6, 2) := by decide +kernel
theorem dX0_init_51 : decode cX0_init 51 = .ok (.getfield 23, 3) := by decide +kernel
theorem dX0_init_54 : decode cX0_init 54 = .ok (.istore 8, 2) := by decide +kernel
theorem dX0_init_56 : decode cX0_init 56 = .ok (.aload_n 0, 1) := by decide +kernel
theorem dX0_init_57 : decode cX0_init 57 = .ok (.iconst 1, 1) := by decide +kernel
theorem dX0_init_58 : decode cX0_init 58 = .ok (.iload 7, 2) := by decide +kernel
theorem dX0_init_60 : decode cX0_init 60 = .ok (.iload 8, 2) := by decide +kernel
theorem dX0_init_62 : decode cX0_init 62 = .ok (.if_icmp .lt 8, 3) := by decide +kernel
theorem dX0_init_65 : decode cX0_init 65 = .ok (.iload 7, 2) := by decide +kernel
theorem dX0_init_67 : decode cX0_init 67 = .ok (.goto 5, 3) := by decide +kernel
theorem dX0_init_70 : decode cX0_init 70 = .ok (.iload 8, 2) := by decide +kernel
theorem dX0_init_72 : decode cX0_init 72 = .ok (.iadd, 1) := by decide +kernel
theorem dX0_init_73 : decode cX0_init 73 = .ok (.putfield 23, 3) := by decide +kernel
theorem dX0_init_76 : decode cX0_init 76 = .ok (.aload_n 0, 1) := by decide +kernel
theorem dX0_init_77 : decode cX0_init 77 = .ok (.iconst 1, 1) := by decide +kernel
theorem dX0_init_78 : decode cX0_init 78 = .ok (.aload_n 1, 1) := by decide +kernel
theorem dX0_init_79 : decode cX0_init 79 = .ok (.ifnonnull 7, 3) := by decide +kernel
theorem dX0_init_82 : decode cX0_init 82 = .ok (.iconst 0, 1) := by decide +kernel
theorem dX0_init_83 : decode cX0_init 83 = .ok (.goto 7, 3) := by decide +kernel
theorem dX0_init_86 : decode cX0_init 86 = .ok (.aload_n 1, 1) := by decide +kernel
theorem dX0_init_87 : decode cX0_init 87 = .ok (.getfield 27, 3) := by decide +kernel
theorem dX0_init_90 : decode cX0_init 90 = .ok (.iadd, 1) := by decide +kernel
theorem dX0_init_91 : decode cX0_init 91 = .ok (.aload 6, 2) := by decide +kernel
theorem dX0_init_93 : decode cX0_init 93 = .ok (.ifnonnull 7, 3) := by decide +kernel
theorem dX0_init_96 : decode cX0_init 96 = .ok (.iconst 0, 1) := by decide +kernel
theorem dX0_init_97 : decode cX0_init 97 = .ok (.goto 8, 3) := by decide +kernel
theorem dX0_init_100 : decode cX0_init 100 = .ok (.aload 6, 2) := by decide +kernel
theorem dX0_init_102 : decode cX0_init 102 = .ok (.getfield 27, 3) := by decide +kernel
theorem dX0_init_105 : decode cX0_init 105 = .ok (.iadd, 1) := by decide +kernel
theorem dX0_init_106 : decode cX0_init 106 = .ok (.putfield 27, 3) := by decide +kernel
theorem dX0_init_109 : decode cX0_init 109 = .ok (.return_, 1) := by decide +kernel
set_option maxRecDepth 100000 in
set_option maxHeartbeats 4000000 in
theorem c_X0_init (l : Launch) (D : va_G) (cy : Nat → ClassId) (N0 : Nat) (h : qH) (a : Nat) (x : Option Nat) (k v0 : Int64) (y : Option Nat) (i j n : Nat) (A B : qKV) (ha : h a = some qBk) (hA : qBr h i x A) (hB : qBr h j y B) (hn : i < n ∧ j < n ∧ (n = i + 1 ∨ n = j + 1)) (hL : n < 2 ^ 31) : qC l D cy N0 yX0_init cX0_init 9 none 1 12 0 0 [.ref a, va_rf x, .long k, .long v0, va_rf y] h (fun v h' => v = none ∧ h' = qs h a (.inr (0, [va_rf x, .long k, .long v0, va_rf y, .int (nI n), .int (nI (A.length + 1 + B.length))]))) (fun E h' => False) := by
  refine q_ofW (by decide) (by simp [lg_sl, q_catrf, q_cati, q_catl, q_cata, q_catn]) ?_
  intro p e s m below meth c ls C hP hl
  have hx := C.1
  have hb := C.2.1
  have hS : va_S (qA N0) s.heap s.heap [] := va_S.rf
  have hl : lv_has ls 9 [(0, .ref a), (1, va_rf x), (2, .long k), (4, .long v0), (6, va_rf y)] := by simpa [lv_args, q_catrf, q_cati, q_catl, q_cata, q_catn] using hl
  have hle : qle h h := qle_rf
  rcases hA.inv with ⟨rfl, rfl, rfl⟩ | ⟨a1, l1, k1, v1, r1, i1, j1, A1, B1, rfl, f1, hl1, hr1, rfl, hg11, hg12, hg13, hg14, hg15, hg16⟩
  · rcases hB.inv with ⟨rfl, rfl, rfl⟩ | ⟨a2, l2, k2, v2, r2, i2, j2, A2, B2, rfl, f2, hl2, hr2, rfl, hg21, hg22, hg23, hg24, hg25, hg26⟩
    · refine lv_aload_n hx hb dX0_init_0 rfl (lv_at hl 0 rfl) ?_
      refine q_obj C g490 g28 g29 hl.1 dX0_init_1 (by simp [q_catrf, q_cati, q_catl, q_cata, q_catn]) ?_
      refine lv_aload_n hx hb dX0_init_4 rfl (lv_at hl 0 rfl) ?_
      refine lv_aload_nN hx hb dX0_init_5 rfl (lv_at hl 1 rfl) ?_
      refine q_putF C hP hS ha rfl inX0 tyX0 tyX0_ok nmX0 0 (by decide) g491 rfl rfl rfl rfl rfl (Nat.le_of_ble_eq_true rfl) dX0_init_6 (fun H locs hP hS => ?_)
      replace ha : (qs h a (.inr (0, [.null, .long 0, .long 0, .null, .int 0, .int 0]))) a = some (.inr (0, [.null, .long 0, .long 0, .null, .int 0, .int 0])) := qs_self
      replace hP : qP D N0 (qs h a (.inr (0, [.null, .long 0, .long 0, .null, .int 0, .int 0]))) H := hP
      refine lv_aload_n hx hb dX0_init_9 rfl (lv_at hl 0 rfl) ?_
      refine lv_lload_n hx hb dX0_init_10 rfl (lv_at hl 2 rfl) ?_
      refine q_putF C hP hS ha rfl inX0 tyX0 tyX0_ok nmX0 1 (by decide) g492 rfl rfl rfl rfl rfl (Nat.le_of_ble_eq_true rfl) dX0_init_11 (fun H locs hP hS => ?_)
      rw [qs_qs] at hP
      replace ha : (qs h a (.inr (0, [.null, .long k, .long 0, .null, .int 0, .int 0]))) a = some (.inr (0, [.null, .long k, .long 0, .null, .int 0, .int 0])) := qs_self
      replace hP : qP D N0 (qs h a (.inr (0, [.null, .long k, .long 0, .null, .int 0, .int 0]))) H := hP
      refine lv_aload_n hx hb dX0_init_14 rfl (lv_at hl 0 rfl) ?_
      refine lv_lload hx hb dX0_init_15 (lv_at hl 3 rfl) ?_
      refine q_putF C hP hS ha rfl inX0 tyX0 tyX0_ok nmX0 2 (by decide) g494 rfl rfl rfl rfl rfl (Nat.le_of_ble_eq_true rfl) dX0_init_17 (fun H locs hP hS => ?_)
      rw [qs_qs] at hP
      replace ha : (qs h a (.inr (0, [.null, .long k, .long v0, .null, .int 0, .int 0]))) a = some (.inr (0, [.null, .long k, .long v0, .null, .int 0, .int 0])) := qs_self
      replace hP : qP D N0 (qs h a (.inr (0, [.null, .long k, .long v0, .null, .int 0, .int 0]))) H := hP
      refine lv_aload_n hx hb dX0_init_20 rfl (lv_at hl 0 rfl) ?_
      refine lv_aloadN hx hb dX0_init_21 (lv_at hl 4 rfl) ?_
      refine q_putF C hP hS ha rfl inX0 tyX0 tyX0_ok nmX0 3 (by decide) g497 rfl rfl rfl rfl rfl (Nat.le_of_ble_eq_true rfl) dX0_init_23 (fun H locs hP hS => ?_)
      rw [qs_qs] at hP
      replace ha : (qs h a (.inr (0, [.null, .long k, .long v0, .null, .int 0, .int 0]))) a = some (.inr (0, [.null, .long k, .long v0, .null, .int 0, .int 0])) := qs_self
      replace hP : qP D N0 (qs h a (.inr (0, [.null, .long k, .long v0, .null, .int 0, .int 0]))) H := hP
      refine lv_aload_nN hx hb dX0_init_26 rfl (lv_at hl 1 rfl) ?_
      refine lv_ifnonnullN hx hb dX0_init_27 ?_
      refine lv_iconst (v := nI 0) hx hb dX0_init_30 (by decide) ?_
      refine lv_goto (tgt := 38) hx hb dX0_init_31 (by decide) ?_
      refine lv_istore (lv' := [(7, .int (nI 0)), (0, .ref a), (1, .null), (2, .long k), (4, .long v0), (6, .null)]) hx hb dX0_init_38 hl (by decide) rfl (fun ls hl => ?_)
      refine lv_aloadN hx hb dX0_init_40 (lv_at hl 5 rfl) ?_
      refine lv_ifnonnullN hx hb dX0_init_42 ?_
      refine lv_iconst (v := nI 0) hx hb dX0_init_45 (by decide) ?_
      refine lv_goto (tgt := 54) hx hb dX0_init_46 (by decide) ?_
      refine lv_istore (lv' := [(8, .int (nI 0)), (7, .int (nI 0)), (0, .ref a), (1, .null), (2, .long k), (4, .long v0), (6, .null)]) hx hb dX0_init_54 hl (by decide) rfl (fun ls hl => ?_)
      refine lv_aload_n hx hb dX0_init_56 rfl (lv_at hl 2 rfl) ?_
      refine lv_iconst (v := nI 1) hx hb dX0_init_57 (by decide) ?_
      refine lv_iload hx hb dX0_init_58 (lv_at hl 1 rfl) ?_
      refine lv_iload hx hb dX0_init_60 (lv_at hl 0 rfl) ?_
      refine lv_icmp_lt (tgt := 70) hx hb dX0_init_62 (by decide) (fun c62 => ?_) (fun c62 => ?_)
      · replace c62 : 0 < 0 := (nI_ltI (a := 0) (b := 0) (by omega) (by omega)).mp c62
        exfalso; omega
      · replace c62 : ¬ 0 < 0 := fun zq => c62 ((nI_ltI (a := 0) (b := 0) (by omega) (by omega)).mpr zq)
        refine lv_iload hx hb dX0_init_65 (lv_at hl 1 rfl) ?_
        refine lv_goto (tgt := 72) hx hb dX0_init_67 (by decide) ?_
        refine q_iaddN hx hb dX0_init_72 ?_
        refine q_putF C hP hS ha rfl inX0 tyX0 tyX0_ok nmX0 4 (by decide) g498 rfl rfl rfl rfl rfl (Nat.le_of_ble_eq_true rfl) dX0_init_73 (fun H locs hP hS => ?_)
        rw [qs_qs] at hP
        replace ha : (qs h a (.inr (0, [.null, .long k, .long v0, .null, .int (nI (1 + 0)), .int 0]))) a = some (.inr (0, [.null, .long k, .long v0, .null, .int (nI (1 + 0)), .int 0])) := qs_self
        replace hP : qP D N0 (qs h a (.inr (0, [.null, .long k, .long v0, .null, .int (nI (1 + 0)), .int 0]))) H := hP
        refine lv_aload_n hx hb dX0_init_76 rfl (lv_at hl 2 rfl) ?_
        refine lv_iconst (v := nI 1) hx hb dX0_init_77 (by decide) ?_
        refine lv_aload_nN hx hb dX0_init_78 rfl (lv_at hl 3 rfl) ?_
        refine lv_ifnonnullN hx hb dX0_init_79 ?_
        refine lv_iconst (v := nI 0) hx hb dX0_init_82 (by decide) ?_
        refine lv_goto (tgt := 90) hx hb dX0_init_83 (by decide) ?_
        refine q_iaddN hx hb dX0_init_90 ?_
        refine lv_aloadN hx hb dX0_init_91 (lv_at hl 6 rfl) ?_
        refine lv_ifnonnullN hx hb dX0_init_93 ?_
        refine lv_iconst (v := nI 0) hx hb dX0_init_96 (by decide) ?_
        refine lv_goto (tgt := 105) hx hb dX0_init_97 (by decide) ?_
        refine q_iaddN hx hb dX0_init_105 ?_
        refine q_putF C hP hS ha rfl inX0 tyX0 tyX0_ok nmX0 5 (by decide) g499 rfl rfl rfl rfl rfl (Nat.le_of_ble_eq_true rfl) dX0_init_106 (fun H locs hP hS => ?_)
        rw [qs_qs] at hP
        replace ha : (qs h a (.inr (0, [.null, .long k, .long v0, .null, .int (nI (1 + 0)), .int (nI ((1 + 0) + 0))]))) a = some (.inr (0, [.null, .long k, .long v0, .null, .int (nI (1 + 0)), .int (nI ((1 + 0) + 0))])) := qs_self
        replace hP : qP D N0 (qs h a (.inr (0, [.null, .long k, .long v0, .null, .int (nI (1 + 0)), .int (nI ((1 + 0) + 0))]))) H := hP
        exact q_vret C hP hS ⟨rfl, qnode_eq (by omega) (by first | (simp only [List.length_append, List.length_cons, List.length_nil]; done) | (simp only [List.length_append, List.length_cons, List.length_nil]; omega))⟩ (by omega) dX0_init_109
    · have zl2 := hl2.len
      have zr2 := hr2.len
      have eL2 : (A2 ++ (k2, v2) :: B2).length = A2.length + (B2.length + 1) := by rw [List.length_append, List.length_cons]
      have n_a_a2 : a2 ≠ a := qbk_ne f2 (by omega) (by omega) ha
      refine lv_aload_n hx hb dX0_init_0 rfl (lv_at hl 0 rfl) ?_
      refine q_obj C g490 g28 g29 hl.1 dX0_init_1 (by simp [q_catrf, q_cati, q_catl, q_cata, q_catn]) ?_
      refine lv_aload_n hx hb dX0_init_4 rfl (lv_at hl 0 rfl) ?_
      refine lv_aload_nN hx hb dX0_init_5 rfl (lv_at hl 1 rfl) ?_
      refine q_putF C hP hS ha rfl inX0 tyX0 tyX0_ok nmX0 0 (by decide) g491 rfl rfl rfl rfl rfl (Nat.le_of_ble_eq_true rfl) dX0_init_6 (fun H locs hP hS => ?_)
      replace f2 := (qs_ne (h := h) (a := a) (o := (.inr (0, [.null, .long 0, .long 0, .null, .int 0, .int 0]))) n_a_a2).trans f2
      replace ha : (qs h a (.inr (0, [.null, .long 0, .long 0, .null, .int 0, .int 0]))) a = some (.inr (0, [.null, .long 0, .long 0, .null, .int 0, .int 0])) := qs_self
      replace hP : qP D N0 (qs h a (.inr (0, [.null, .long 0, .long 0, .null, .int 0, .int 0]))) H := hP
      refine lv_aload_n hx hb dX0_init_9 rfl (lv_at hl 0 rfl) ?_
      refine lv_lload_n hx hb dX0_init_10 rfl (lv_at hl 2 rfl) ?_
      refine q_putF C hP hS ha rfl inX0 tyX0 tyX0_ok nmX0 1 (by decide) g492 rfl rfl rfl rfl rfl (Nat.le_of_ble_eq_true rfl) dX0_init_11 (fun H locs hP hS => ?_)
      rw [qs_qs] at hP
      replace f2 := qs_re (o' := (.inr (0, [.null, .long k, .long 0, .null, .int 0, .int 0]))) n_a_a2 f2
      replace ha : (qs h a (.inr (0, [.null, .long k, .long 0, .null, .int 0, .int 0]))) a = some (.inr (0, [.null, .long k, .long 0, .null, .int 0, .int 0])) := qs_self
      replace hP : qP D N0 (qs h a (.inr (0, [.null, .long k, .long 0, .null, .int 0, .int 0]))) H := hP
      refine lv_aload_n hx hb dX0_init_14 rfl (lv_at hl 0 rfl) ?_
      refine lv_lload hx hb dX0_init_15 (lv_at hl 3 rfl) ?_
      refine q_putF C hP hS ha rfl inX0 tyX0 tyX0_ok nmX0 2 (by decide) g494 rfl rfl rfl rfl rfl (Nat.le_of_ble_eq_true rfl) dX0_init_17 (fun H locs hP hS => ?_)
      rw [qs_qs] at hP
      replace f2 := qs_re (o' := (.inr (0, [.null, .long k, .long v0, .null, .int 0, .int 0]))) n_a_a2 f2
      replace ha : (qs h a (.inr (0, [.null, .long k, .long v0, .null, .int 0, .int 0]))) a = some (.inr (0, [.null, .long k, .long v0, .null, .int 0, .int 0])) := qs_self
      replace hP : qP D N0 (qs h a (.inr (0, [.null, .long k, .long v0, .null, .int 0, .int 0]))) H := hP
      refine lv_aload_n hx hb dX0_init_20 rfl (lv_at hl 0 rfl) ?_
      refine lv_aload hx hb dX0_init_21 (lv_at hl 4 rfl) ?_
      refine q_putF C hP hS ha rfl inX0 tyX0 tyX0_ok nmX0 3 (by decide) g497 rfl rfl rfl rfl rfl (Nat.le_of_ble_eq_true rfl) dX0_init_23 (fun H locs hP hS => ?_)
      rw [qs_qs] at hP
      replace f2 := qs_re (o' := (.inr (0, [.null, .long k, .long v0, .ref a2, .int 0, .int 0]))) n_a_a2 f2
      replace ha : (qs h a (.inr (0, [.null, .long k, .long v0, .ref a2, .int 0, .int 0]))) a = some (.inr (0, [.null, .long k, .long v0, .ref a2, .int 0, .int 0])) := qs_self
      replace hP : qP D N0 (qs h a (.inr (0, [.null, .long k, .long v0, .ref a2, .int 0, .int 0]))) H := hP
      refine lv_aload_nN hx hb dX0_init_26 rfl (lv_at hl 1 rfl) ?_
      refine lv_ifnonnullN hx hb dX0_init_27 ?_
      refine lv_iconst (v := nI 0) hx hb dX0_init_30 (by decide) ?_
      refine lv_goto (tgt := 38) hx hb dX0_init_31 (by decide) ?_
      refine lv_istore (lv' := [(7, .int (nI 0)), (0, .ref a), (1, .null), (2, .long k), (4, .long v0), (6, .ref a2)]) hx hb dX0_init_38 hl (by decide) rfl (fun ls hl => ?_)
      refine lv_aload hx hb dX0_init_40 (lv_at hl 5 rfl) ?_
      refine lv_ifnonnull (tgt := 49) hx hb dX0_init_42 (by decide) ?_
      refine lv_aload hx hb dX0_init_49 (lv_at hl 5 rfl) ?_
      refine q_get C hP f2 rfl inX0 4 (by decide) g498 rfl dX0_init_51 ?_
      refine lv_istore (lv' := [(8, .int (nI j)), (7, .int (nI 0)), (0, .ref a), (1, .null), (2, .long k), (4, .long v0), (6, .ref a2)]) hx hb dX0_init_54 hl (by decide) rfl (fun ls hl => ?_)
      refine lv_aload_n hx hb dX0_init_56 rfl (lv_at hl 2 rfl) ?_
      refine lv_iconst (v := nI 1) hx hb dX0_init_57 (by decide) ?_
      refine lv_iload hx hb dX0_init_58 (lv_at hl 1 rfl) ?_
      refine lv_iload hx hb dX0_init_60 (lv_at hl 0 rfl) ?_
      refine lv_icmp_lt (tgt := 70) hx hb dX0_init_62 (by decide) (fun c62 => ?_) (fun c62 => ?_)
      · replace c62 : 0 < j := (nI_ltI (a := 0) (b := j) (by omega) (by omega)).mp c62
        refine lv_iload hx hb dX0_init_70 (lv_at hl 0 rfl) ?_
        refine q_iaddN hx hb dX0_init_72 ?_
        refine q_putF C hP hS ha rfl inX0 tyX0 tyX0_ok nmX0 4 (by decide) g498 rfl rfl rfl rfl rfl (Nat.le_of_ble_eq_true rfl) dX0_init_73 (fun H locs hP hS => ?_)
        rw [qs_qs] at hP
        replace f2 := qs_re (o' := (.inr (0, [.null, .long k, .long v0, .ref a2, .int (nI (1 + j)), .int 0]))) n_a_a2 f2
        replace ha : (qs h a (.inr (0, [.null, .long k, .long v0, .ref a2, .int (nI (1 + j)), .int 0]))) a = some (.inr (0, [.null, .long k, .long v0, .ref a2, .int (nI (1 + j)), .int 0])) := qs_self
        replace hP : qP D N0 (qs h a (.inr (0, [.null, .long k, .long v0, .ref a2, .int (nI (1 + j)), .int 0]))) H := hP
        refine lv_aload_n hx hb dX0_init_76 rfl (lv_at hl 2 rfl) ?_
        refine lv_iconst (v := nI 1) hx hb dX0_init_77 (by decide) ?_
        refine lv_aload_nN hx hb dX0_init_78 rfl (lv_at hl 3 rfl) ?_
        refine lv_ifnonnullN hx hb dX0_init_79 ?_
        refine lv_iconst (v := nI 0) hx hb dX0_init_82 (by decide) ?_
        refine lv_goto (tgt := 90) hx hb dX0_init_83 (by decide) ?_
        refine q_iaddN hx hb dX0_init_90 ?_
        refine lv_aload hx hb dX0_init_91 (lv_at hl 6 rfl) ?_
        refine lv_ifnonnull (tgt := 100) hx hb dX0_init_93 (by decide) ?_
        refine lv_aload hx hb dX0_init_100 (lv_at hl 6 rfl) ?_
        refine q_get C hP f2 rfl inX0 5 (by decide) g499 rfl dX0_init_102 ?_
        refine q_iaddN hx hb dX0_init_105 ?_
        refine q_putF C hP hS ha rfl inX0 tyX0 tyX0_ok nmX0 5 (by decide) g499 rfl rfl rfl rfl rfl (Nat.le_of_ble_eq_true rfl) dX0_init_106 (fun H locs hP hS => ?_)
        rw [qs_qs] at hP
        replace f2 := qs_re (o' := (.inr (0, [.null, .long k, .long v0, .ref a2, .int (nI (1 + j)), .int (nI ((1 + 0) + (A2.length + 1 + B2.length)))]))) n_a_a2 f2
        replace ha : (qs h a (.inr (0, [.null, .long k, .long v0, .ref a2, .int (nI (1 + j)), .int (nI ((1 + 0) + (A2.length + 1 + B2.length)))]))) a = some (.inr (0, [.null, .long k, .long v0, .ref a2, .int (nI (1 + j)), .int (nI ((1 + 0) + (A2.length + 1 + B2.length)))])) := qs_self
        replace hP : qP D N0 (qs h a (.inr (0, [.null, .long k, .long v0, .ref a2, .int (nI (1 + j)), .int (nI ((1 + 0) + (A2.length + 1 + B2.length)))]))) H := hP
        exact q_vret C hP hS ⟨rfl, qnode_eq (by omega) (by first | (simp only [List.length_append, List.length_cons, List.length_nil]; done) | (simp only [List.length_append, List.length_cons, List.length_nil]; omega))⟩ (by omega) dX0_init_109
      · replace c62 : ¬ 0 < j := fun zq => c62 ((nI_ltI (a := 0) (b := j) (by omega) (by omega)).mpr zq)
        refine lv_iload hx hb dX0_init_65 (lv_at hl 1 rfl) ?_
        refine lv_goto (tgt := 72) hx hb dX0_init_67 (by decide) ?_
        refine q_iaddN hx hb dX0_init_72 ?_
        refine q_putF C hP hS ha rfl inX0 tyX0 tyX0_ok nmX0 4 (by decide) g498 rfl rfl rfl rfl rfl (Nat.le_of_ble_eq_true rfl) dX0_init_73 (fun H locs hP hS => ?_)
        rw [qs_qs] at hP
        replace f2 := qs_re (o' := (.inr (0, [.null, .long k, .long v0, .ref a2, .int (nI (1 + 0)), .int 0]))) n_a_a2 f2
        replace ha : (qs h a (.inr (0, [.null, .long k, .long v0, .ref a2, .int (nI (1 + 0)), .int 0]))) a = some (.inr (0, [.null, .long k, .long v0, .ref a2, .int (nI (1 + 0)), .int 0])) := qs_self
        replace hP : qP D N0 (qs h a (.inr (0, [.null, .long k, .long v0, .ref a2, .int (nI (1 + 0)), .int 0]))) H := hP
        refine lv_aload_n hx hb dX0_init_76 rfl (lv_at hl 2 rfl) ?_
        refine lv_iconst (v := nI 1) hx hb dX0_init_77 (by decide) ?_
        refine lv_aload_nN hx hb dX0_init_78 rfl (lv_at hl 3 rfl) ?_
        refine lv_ifnonnullN hx hb dX0_init_79 ?_
        refine lv_iconst (v := nI 0) hx hb dX0_init_82 (by decide) ?_
        refine lv_goto (tgt := 90) hx hb dX0_init_83 (by decide) ?_
        refine q_iaddN hx hb dX0_init_90 ?_
        refine lv_aload hx hb dX0_init_91 (lv_at hl 6 rfl) ?_
        refine lv_ifnonnull (tgt := 100) hx hb dX0_init_93 (by decide) ?_
        refine lv_aload hx hb dX0_init_100 (lv_at hl 6 rfl) ?_
        refine q_get C hP f2 rfl inX0 5 (by decide) g499 rfl dX0_init_102 ?_
        refine q_iaddN hx hb dX0_init_105 ?_
        refine q_putF C hP hS ha rfl inX0 tyX0 tyX0_ok nmX0 5 (by decide) g499 rfl rfl rfl rfl rfl (Nat.le_of_ble_eq_true rfl) dX0_init_106 (fun H locs hP hS => ?_)
        rw [qs_qs] at hP
        replace f2 := qs_re (o' := (.inr (0, [.null, .long k, .long v0, .ref a2, .int (nI (1 + 0)), .int (nI ((1 + 0) + (A2.length + 1 + B2.length)))]))) n_a_a2 f2
        replace ha : (qs h a (.inr (0, [.null, .long k, .long v0, .ref a2, .int (nI (1 + 0)), .int (nI ((1 + 0) + (A2.length + 1 + B2.length)))]))) a = some (.inr (0, [.null, .long k, .long v0, .ref a2, .int (nI (1 + 0)), .int (nI ((1 + 0) + (A2.length + 1 + B2.length)))])) := qs_self
        replace hP : qP D N0 (qs h a (.inr (0, [.null, .long k, .long v0, .ref a2, .int (nI (1 + 0)), .int (nI ((1 + 0) + (A2.length + 1 + B2.length)))]))) H := hP
        exact q_vret C hP hS ⟨rfl, qnode_eq (by omega) (by first | (simp only [List.length_append, List.length_cons, List.length_nil]; done) | (simp only [List.length_append, List.length_cons, List.length_nil]; omega))⟩ (by omega) dX0_init_109
  · have zl1 := hl1.len
    have zr1 := hr1.len
    have eL1 : (A1 ++ (k1, v1) :: B1).length = A1.length + (B1.length + 1) := by rw [List.length_append, List.length_cons]
    have n_a_a1 : a1 ≠ a := qbk_ne f1 (by omega) (by omega) ha
    rcases hB.inv with ⟨rfl, rfl, rfl⟩ | ⟨a2, l2, k2, v2, r2, i2, j2, A2, B2, rfl, f2, hl2, hr2, rfl, hg21, hg22, hg23, hg24, hg25, hg26⟩
    · refine lv_aload_n hx hb dX0_init_0 rfl (lv_at hl 0 rfl) ?_
      refine q_obj C g490 g28 g29 hl.1 dX0_init_1 (by simp [q_catrf, q_cati, q_catl, q_cata, q_catn]) ?_
      refine lv_aload_n hx hb dX0_init_4 rfl (lv_at hl 0 rfl) ?_
      refine lv_aload_n hx hb dX0_init_5 rfl (lv_at hl 1 rfl) ?_
      refine q_putF C hP hS ha rfl inX0 tyX0 tyX0_ok nmX0 0 (by decide) g491 rfl rfl rfl rfl rfl (Nat.le_of_ble_eq_true rfl) dX0_init_6 (fun H locs hP hS => ?_)
      replace f1 := (qs_ne (h := h) (a := a) (o := (.inr (0, [.ref a1, .long 0, .long 0, .null, .int 0, .int 0]))) n_a_a1).trans f1
      replace ha : (qs h a (.inr (0, [.ref a1, .long 0, .long 0, .null, .int 0, .int 0]))) a = some (.inr (0, [.ref a1, .long 0, .long 0, .null, .int 0, .int 0])) := qs_self
      replace hP : qP D N0 (qs h a (.inr (0, [.ref a1, .long 0, .long 0, .null, .int 0, .int 0]))) H := hP
      refine lv_aload_n hx hb dX0_init_9 rfl (lv_at hl 0 rfl) ?_
      refine lv_lload_n hx hb dX0_init_10 rfl (lv_at hl 2 rfl) ?_
      refine q_putF C hP hS ha rfl inX0 tyX0 tyX0_ok nmX0 1 (by decide) g492 rfl rfl rfl rfl rfl (Nat.le_of_ble_eq_true rfl) dX0_init_11 (fun H locs hP hS => ?_)
      rw [qs_qs] at hP
      replace f1 := qs_re (o' := (.inr (0, [.ref a1, .long k, .long 0, .null, .int 0, .int 0]))) n_a_a1 f1
      replace ha : (qs h a (.inr (0, [.ref a1, .long k, .long 0, .null, .int 0, .int 0]))) a = some (.inr (0, [.ref a1, .long k, .long 0, .null, .int 0, .int 0])) := qs_self
      replace hP : qP D N0 (qs h a (.inr (0, [.ref a1, .long k, .long 0, .null, .int 0, .int 0]))) H := hP
      refine lv_aload_n hx hb dX0_init_14 rfl (lv_at hl 0 rfl) ?_
      refine lv_lload hx hb dX0_init_15 (lv_at hl 3 rfl) ?_
      refine q_putF C hP hS ha rfl inX0 tyX0 tyX0_ok nmX0 2 (by decide) g494 rfl rfl rfl rfl rfl (Nat.le_of_ble_eq_true rfl) dX0_init_17 (fun H locs hP hS => ?_)
      rw [qs_qs] at hP
      replace f1 := qs_re (o' := (.inr (0, [.ref a1, .long k, .long v0, .null, .int 0, .int 0]))) n_a_a1 f1
      replace ha : (qs h a (.inr (0, [.ref a1, .long k, .long v0, .null, .int 0, .int 0]))) a = some (.inr (0, [.ref a1, .long k, .long v0, .null, .int 0, .int 0])) := qs_self
      replace hP : qP D N0 (qs h a (.inr (0, [.ref a1, .long k, .long v0, .null, .int 0, .int 0]))) H := hP
      refine lv_aload_n hx hb dX0_init_20 rfl (lv_at hl 0 rfl) ?_
      refine lv_aloadN hx hb dX0_init_21 (lv_at hl 4 rfl) ?_
      refine q_putF C hP hS ha rfl inX0 tyX0 tyX0_ok nmX0 3 (by decide) g497 rfl rfl rfl rfl rfl (Nat.le_of_ble_eq_true rfl) dX0_init_23 (fun H locs hP hS => ?_)
      rw [qs_qs] at hP
      replace f1 := qs_re (o' := (.inr (0, [.ref a1, .long k, .long v0, .null, .int 0, .int 0]))) n_a_a1 f1
      replace ha : (qs h a (.inr (0, [.ref a1, .long k, .long v0, .null, .int 0, .int 0]))) a = some (.inr (0, [.ref a1, .long k, .long v0, .null, .int 0, .int 0])) := qs_self
      replace hP : qP D N0 (qs h a (.inr (0, [.ref a1, .long k, .long v0, .null, .int 0, .int 0]))) H := hP
      refine lv_aload_n hx hb dX0_init_26 rfl (lv_at hl 1 rfl) ?_
      refine lv_ifnonnull (tgt := 34) hx hb dX0_init_27 (by decide) ?_
      refine lv_aload_n hx hb dX0_init_34 rfl (lv_at hl 1 rfl) ?_
      refine q_get C hP f1 rfl inX0 4 (by decide) g498 rfl dX0_init_35 ?_
      refine lv_istore (lv' := [(7, .int (nI i)), (0, .ref a), (1, .ref a1), (2, .long k), (4, .long v0), (6, .null)]) hx hb dX0_init_38 hl (by decide) rfl (fun ls hl => ?_)
      refine lv_aloadN hx hb dX0_init_40 (lv_at hl 5 rfl) ?_
      refine lv_ifnonnullN hx hb dX0_init_42 ?_
      refine lv_iconst (v := nI 0) hx hb dX0_init_45 (by decide) ?_
      refine lv_goto (tgt := 54) hx hb dX0_init_46 (by decide) ?_
      refine lv_istore (lv' := [(8, .int (nI 0)), (7, .int (nI i)), (0, .ref a), (1, .ref a1), (2, .long k), (4, .long v0), (6, .null)]) hx hb dX0_init_54 hl (by decide) rfl (fun ls hl => ?_)
      refine lv_aload_n hx hb dX0_init_56 rfl (lv_at hl 2 rfl) ?_
      refine lv_iconst (v := nI 1) hx hb dX0_init_57 (by decide) ?_
      refine lv_iload hx hb dX0_init_58 (lv_at hl 1 rfl) ?_
      refine lv_iload hx hb dX0_init_60 (lv_at hl 0 rfl) ?_
      refine lv_icmp_lt (tgt := 70) hx hb dX0_init_62 (by decide) (fun c62 => ?_) (fun c62 => ?_)
      · replace c62 : i < 0 := (nI_ltI (a := i) (b := 0) (by omega) (by omega)).mp c62
        refine lv_iload hx hb dX0_init_70 (lv_at hl 0 rfl) ?_
        refine q_iaddN hx hb dX0_init_72 ?_
        refine q_putF C hP hS ha rfl inX0 tyX0 tyX0_ok nmX0 4 (by decide) g498 rfl rfl rfl rfl rfl (Nat.le_of_ble_eq_true rfl) dX0_init_73 (fun H locs hP hS => ?_)
        rw [qs_qs] at hP
        replace f1 := qs_re (o' := (.inr (0, [.ref a1, .long k, .long v0, .null, .int (nI (1 + 0)), .int 0]))) n_a_a1 f1
        replace ha : (qs h a (.inr (0, [.ref a1, .long k, .long v0, .null, .int (nI (1 + 0)), .int 0]))) a = some (.inr (0, [.ref a1, .long k, .long v0, .null, .int (nI (1 + 0)), .int 0])) := qs_self
        replace hP : qP D N0 (qs h a (.inr (0, [.ref a1, .long k, .long v0, .null, .int (nI (1 + 0)), .int 0]))) H := hP
        refine lv_aload_n hx hb dX0_init_76 rfl (lv_at hl 2 rfl) ?_
        refine lv_iconst (v := nI 1) hx hb dX0_init_77 (by decide) ?_
        refine lv_aload_n hx hb dX0_init_78 rfl (lv_at hl 3 rfl) ?_
        refine lv_ifnonnull (tgt := 86) hx hb dX0_init_79 (by decide) ?_
        refine lv_aload_n hx hb dX0_init_86 rfl (lv_at hl 3 rfl) ?_
        refine q_get C hP f1 rfl inX0 5 (by decide) g499 rfl dX0_init_87 ?_
        refine q_iaddN hx hb dX0_init_90 ?_
        refine lv_aloadN hx hb dX0_init_91 (lv_at hl 6 rfl) ?_
        refine lv_ifnonnullN hx hb dX0_init_93 ?_
        refine lv_iconst (v := nI 0) hx hb dX0_init_96 (by decide) ?_
        refine lv_goto (tgt := 105) hx hb dX0_init_97 (by decide) ?_
        refine q_iaddN hx hb dX0_init_105 ?_
        refine q_putF C hP hS ha rfl inX0 tyX0 tyX0_ok nmX0 5 (by decide) g499 rfl rfl rfl rfl rfl (Nat.le_of_ble_eq_true rfl) dX0_init_106 (fun H locs hP hS => ?_)
        rw [qs_qs] at hP
        replace f1 := qs_re (o' := (.inr (0, [.ref a1, .long k, .long v0, .null, .int (nI (1 + 0)), .int (nI ((1 + (A1.length + 1 + B1.length)) + 0))]))) n_a_a1 f1
        replace ha : (qs h a (.inr (0, [.ref a1, .long k, .long v0, .null, .int (nI (1 + 0)), .int (nI ((1 + (A1.length + 1 + B1.length)) + 0))]))) a = some (.inr (0, [.ref a1, .long k, .long v0, .null, .int (nI (1 + 0)), .int (nI ((1 + (A1.length + 1 + B1.length)) + 0))])) := qs_self
        replace hP : qP D N0 (qs h a (.inr (0, [.ref a1, .long k, .long v0, .null, .int (nI (1 + 0)), .int (nI ((1 + (A1.length + 1 + B1.length)) + 0))]))) H := hP
        exact q_vret C hP hS ⟨rfl, qnode_eq (by omega) (by first | (simp only [List.length_append, List.length_cons, List.length_nil]; done) | (simp only [List.length_append, List.length_cons, List.length_nil]; omega))⟩ (by omega) dX0_init_109
      · replace c62 : ¬ i < 0 := fun zq => c62 ((nI_ltI (a := i) (b := 0) (by omega) (by omega)).mpr zq)
        refine lv_iload hx hb dX0_init_65 (lv_at hl 1 rfl) ?_
        refine lv_goto (tgt := 72) hx hb dX0_init_67 (by decide) ?_
        refine q_iaddN hx hb dX0_init_72 ?_
        refine q_putF C hP hS ha rfl inX0 tyX0 tyX0_ok nmX0 4 (by decide) g498 rfl rfl rfl rfl rfl (Nat.le_of_ble_eq_true rfl) dX0_init_73 (fun H locs hP hS => ?_)
        rw [qs_qs] at hP
        replace f1 := qs_re (o' := (.inr (0, [.ref a1, .long k, .long v0, .null, .int (nI (1 + i)), .int 0]))) n_a_a1 f1
        replace ha : (qs h a (.inr (0, [.ref a1, .long k, .long v0, .null, .int (nI (1 + i)), .int 0]))) a = some (.inr (0, [.ref a1, .long k, .long v0, .null, .int (nI (1 + i)), .int 0])) := qs_self
        replace hP : qP D N0 (qs h a (.inr (0, [.ref a1, .long k, .long v0, .null, .int (nI (1 + i)), .int 0]))) H := hP
        refine lv_aload_n hx hb dX0_init_76 rfl (lv_at hl 2 rfl) ?_
        refine lv_iconst (v := nI 1) hx hb dX0_init_77 (by decide) ?_
        refine lv_aload_n hx hb dX0_init_78 rfl (lv_at hl 3 rfl) ?_
        refine lv_ifnonnull (tgt := 86) hx hb dX0_init_79 (by decide) ?_
        refine lv_aload_n hx hb dX0_init_86 rfl (lv_at hl 3 rfl) ?_
        refine q_get C hP f1 rfl inX0 5 (by decide) g499 rfl dX0_init_87 ?_
        refine q_iaddN hx hb dX0_init_90 ?_
        refine lv_aloadN hx hb dX0_init_91 (lv_at hl 6 rfl) ?_
        refine lv_ifnonnullN hx hb dX0_init_93 ?_
        refine lv_iconst (v := nI 0) hx hb dX0_init_96 (by decide) ?_
        refine lv_goto (tgt := 105) hx hb dX0_init_97 (by decide) ?_
        refine q_iaddN hx hb dX0_init_105 ?_
        refine q_putF C hP hS ha rfl inX0 tyX0 tyX0_ok nmX0 5 (by decide) g499 rfl rfl rfl rfl rfl (Nat.le_of_ble_eq_true rfl) dX0_init_106 (fun H locs hP hS => ?_)
        rw [qs_qs] at hP
        replace f1 := qs_re (o' := (.inr (0, [.ref a1, .long k, .long v0, .null, .int (nI (1 + i)), .int (nI ((1 + (A1.length + 1 + B1.length)) + 0))]))) n_a_a1 f1
        replace ha : (qs h a (.inr (0, [.ref a1, .long k, .long v0, .null, .int (nI (1 + i)), .int (nI ((1 + (A1.length + 1 + B1.length)) + 0))]))) a = some (.inr (0, [.ref a1, .long k, .long v0, .null, .int (nI (1 + i)), .int (nI ((1 + (A1.length + 1 + B1.length)) + 0))])) := qs_self
        replace hP : qP D N0 (qs h a (.inr (0, [.ref a1, .long k, .long v0, .null, .int (nI (1 + i)), .int (nI ((1 + (A1.length + 1 + B1.length)) + 0))]))) H := hP
        exact q_vret C hP hS ⟨rfl, qnode_eq (by omega) (by first | (simp only [List.length_append, List.length_cons, List.length_nil]; done) | (simp only [List.length_append, List.length_cons, List.length_nil]; omega))⟩ (by omega) dX0_init_109
    · have zl2 := hl2.len
      have zr2 := hr2.len
      have eL2 : (A2 ++ (k2, v2) :: B2).length = A2.length + (B2.length + 1) := by rw [List.length_append, List.length_cons]
      have n_a_a2 : a2 ≠ a := qbk_ne f2 (by omega) (by omega) ha
      refine lv_aload_n hx hb dX0_init_0 rfl (lv_at hl 0 rfl) ?_
      refine q_obj C g490 g28 g29 hl.1 dX0_init_1 (by simp [q_catrf, q_cati, q_catl, q_cata, q_catn]) ?_
      refine lv_aload_n hx hb dX0_init_4 rfl (lv_at hl 0 rfl) ?_
      refine lv_aload_n hx hb dX0_init_5 rfl (lv_at hl 1 rfl) ?_
      refine q_putF C hP hS ha rfl inX0 tyX0 tyX0_ok nmX0 0 (by decide) g491 rfl rfl rfl rfl rfl (Nat.le_of_ble_eq_true rfl) dX0_init_6 (fun H locs hP hS => ?_)
      replace f1 := (qs_ne (h := h) (a := a) (o := (.inr (0, [.ref a1, .long 0, .long 0, .null, .int 0, .int 0]))) n_a_a1).trans f1
      replace f2 := (qs_ne (h := h) (a := a) (o := (.inr (0, [.ref a1, .long 0, .long 0, .null, .int 0, .int 0]))) n_a_a2).trans f2
      replace ha : (qs h a (.inr (0, [.ref a1, .long 0, .long 0, .null, .int 0, .int 0]))) a = some (.inr (0, [.ref a1, .long 0, .long 0, .null, .int 0, .int 0])) := qs_self
      replace hP : qP D N0 (qs h a (.inr (0, [.ref a1, .long 0, .long 0, .null, .int 0, .int 0]))) H := hP
      refine lv_aload_n hx hb dX0_init_9 rfl (lv_at hl 0 rfl) ?_
      refine lv_lload_n hx hb dX0_init_10 rfl (lv_at hl 2 rfl) ?_
      refine q_putF C hP hS ha rfl inX0 tyX0 tyX0_ok nmX0 1 (by decide) g492 rfl rfl rfl rfl rfl (Nat.le_of_ble_eq_true rfl) dX0_init_11 (fun H locs hP hS => ?_)
      rw [qs_qs] at hP
      replace f1 := qs_re (o' := (.inr (0, [.ref a1, .long k, .long 0, .null, .int 0, .int 0]))) n_a_a1 f1
      replace f2 := qs_re (o' := (.inr (0, [.ref a1, .long k, .long 0, .null, .int 0, .int 0]))) n_a_a2 f2
      replace ha : (qs h a (.inr (0, [.ref a1, .long k, .long 0, .null, .int 0, .int 0]))) a = some (.inr (0, [.ref a1, .long k, .long 0, .null, .int 0, .int 0])) := qs_self
      replace hP : qP D N0 (qs h a (.inr (0, [.ref a1, .long k, .long 0, .null, .int 0, .int 0]))) H := hP
      refine lv_aload_n hx hb dX0_init_14 rfl (lv_at hl 0 rfl) ?_
      refine lv_lload hx hb dX0_init_15 (lv_at hl 3 rfl) ?_
      refine q_putF C hP hS ha rfl inX0 tyX0 tyX0_ok nmX0 2 (by decide) g494 rfl rfl rfl rfl rfl (Nat.le_of_ble_eq_true rfl) dX0_init_17 (fun H locs hP hS => ?_)
      rw [qs_qs] at hP
      replace f1 := qs_re (o' := (.inr (0, [.ref a1, .long k, .long v0, .null, .int 0, .int 0]))) n_a_a1 f1
      replace f2 := qs_re (o' := (.inr (0, [.ref a1, .long k, .long v0, .null, .int 0, .int 0]))) n_a_a2 f2
      replace ha : (qs h a (.inr (0, [.ref a1, .long k, .long v0, .null, .int 0, .int 0]))) a = some (.inr (0, [.ref a1, .long k, .long v0, .null, .int 0, .int 0])) := qs_self
      replace hP : qP D N0 (qs h a (.inr (0, [.ref a1, .long k, .long v0, .null, .int 0, .int 0]))) H := hP
      refine lv_aload_n hx hb dX0_init_20 rfl (lv_at hl 0 rfl) ?_
      refine lv_aload hx hb dX0_init_21 (lv_at hl 4 rfl) ?_
      refine q_putF C hP hS ha rfl inX0 tyX0 tyX0_ok nmX0 3 (by decide) g497 rfl rfl rfl rfl rfl (Nat.le_of_ble_eq_true rfl) dX0_init_23 (fun H locs hP hS => ?_)
      rw [qs_qs] at hP
      replace f1 := qs_re (o' := (.inr (0, [.ref a1, .long k, .long v0, .ref a2, .int 0, .int 0]))) n_a_a1 f1
      replace f2 := qs_re (o' := (.inr (0, [.ref a1, .long k, .long v0, .ref a2, .int 0, .int 0]))) n_a_a2 f2
      replace ha : (qs h a (.inr (0, [.ref a1, .long k, .long v0, .ref a2, .int 0, .int 0]))) a = some (.inr (0, [.ref a1, .long k, .long v0, .ref a2, .int 0, .int 0])) := qs_self
      replace hP : qP D N0 (qs h a (.inr (0, [.ref a1, .long k, .long v0, .ref a2, .int 0, .int 0]))) H := hP
      refine lv_aload_n hx hb dX0_init_26 rfl (lv_at hl 1 rfl) ?_
      refine lv_ifnonnull (tgt := 34) hx hb dX0_init_27 (by decide) ?_
      refine lv_aload_n hx hb dX0_init_34 rfl (lv_at hl 1 rfl) ?_
      refine q_get C hP f1 rfl inX0 4 (by decide) g498 rfl dX0_init_35 ?_
      refine lv_istore (lv' := [(7, .int (nI i)), (0, .ref a), (1, .ref a1), (2, .long k), (4, .long v0), (6, .ref a2)]) hx hb dX0_init_38 hl (by decide) rfl (fun ls hl => ?_)
      refine lv_aload hx hb dX0_init_40 (lv_at hl 5 rfl) ?_
      refine lv_ifnonnull (tgt := 49) hx hb dX0_init_42 (by decide) ?_
      refine lv_aload hx hb dX0_init_49 (lv_at hl 5 rfl) ?_
      refine q_get C hP f2 rfl inX0 4 (by decide) g498 rfl dX0_init_51 ?_
      refine lv_istore (lv' := [(8, .int (nI j)), (7, .int (nI i)), (0, .ref a), (1, .ref a1), (2, .long k), (4, .long v0), (6, .ref a2)]) hx hb dX0_init_54 hl (by decide) rfl (fun ls hl => ?_)
      refine lv_aload_n hx hb dX0_init_56 rfl (lv_at hl 2 rfl) ?_
      refine lv_iconst (v := nI 1) hx hb dX0_init_57 (by decide) ?_
      refine lv_iload hx hb dX0_init_58 (lv_at hl 1 rfl) ?_
      refine lv_iload hx hb dX0_init_60 (lv_at hl 0 rfl) ?_
      refine lv_icmp_lt (tgt := 70) hx hb dX0_init_62 (by decide) (fun c62 => ?_) (fun c62 => ?_)
      · replace c62 : i < j := (nI_ltI (a := i) (b := j) (by omega) (by omega)).mp c62
        refine lv_iload hx hb dX0_init_70 (lv_at hl 0 rfl) ?_
        refine q_iaddN hx hb dX0_init_72 ?_
        refine q_putF C hP hS ha rfl inX0 tyX0 tyX0_ok nmX0 4 (by decide) g498 rfl rfl rfl rfl rfl (Nat.le_of_ble_eq_true rfl) dX0_init_73 (fun H locs hP hS => ?_)
        rw [qs_qs] at hP
        replace f1 := qs_re (o' := (.inr (0, [.ref a1, .long k, .long v0, .ref a2, .int (nI (1 + j)), .int 0]))) n_a_a1 f1
        replace f2 := qs_re (o' := (.inr (0, [.ref a1, .long k, .long v0, .ref a2, .int (nI (1 + j)), .int 0]))) n_a_a2 f2
        replace ha : (qs h a (.inr (0, [.ref a1, .long k, .long v0, .ref a2, .int (nI (1 + j)), .int 0]))) a = some (.inr (0, [.ref a1, .long k, .long v0, .ref a2, .int (nI (1 + j)), .int 0])) := qs_self
        replace hP : qP D N0 (qs h a (.inr (0, [.ref a1, .long k, .long v0, .ref a2, .int (nI (1 + j)), .int 0]))) H := hP
        refine lv_aload_n hx hb dX0_init_76 rfl (lv_at hl 2 rfl) ?_
        refine lv_iconst (v := nI 1) hx hb dX0_init_77 (by decide) ?_
        refine lv_aload_n hx hb dX0_init_78 rfl (lv_at hl 3 rfl) ?_
        refine lv_ifnonnull (tgt := 86) hx hb dX0_init_79 (by decide) ?_
        refine lv_aload_n hx hb dX0_init_86 rfl (lv_at hl 3 rfl) ?_
        refine q_get C hP f1 rfl inX0 5 (by decide) g499 rfl dX0_init_87 ?_
        refine q_iaddN hx hb dX0_init_90 ?_
        refine lv_aload hx hb dX0_init_91 (lv_at hl 6 rfl) ?_
        refine lv_ifnonnull (tgt := 100) hx hb dX0_init_93 (by decide) ?_
        refine lv_aload hx hb dX0_init_100 (lv_at hl 6 rfl) ?_
        refine q_get C hP f2 rfl inX0 5 (by decide) g499 rfl dX0_init_102 ?_
        refine q_iaddN hx hb dX0_init_105 ?_
        refine q_putF C hP hS ha rfl inX0 tyX0 tyX0_ok nmX0 5 (by decide) g499 rfl rfl rfl rfl rfl (Nat.le_of_ble_eq_true rfl) dX0_init_106 (fun H locs hP hS => ?_)
        rw [qs_qs] at hP
        replace f1 := qs_re (o' := (.inr (0, [.ref a1, .long k, .long v0, .ref a2, .int (nI (1 + j)), .int (nI ((1 + (A1.length + 1 + B1.length)) + (A2.length + 1 + B2.length)))]))) n_a_a1 f1
        replace f2 := qs_re (o' := (.inr (0, [.ref a1, .long k, .long v0, .ref a2, .int (nI (1 + j)), .int (nI ((1 + (A1.length + 1 + B1.length)) + (A2.length + 1 + B2.length)))]))) n_a_a2 f2
        replace ha : (qs h a (.inr (0, [.ref a1, .long k, .long v0, .ref a2, .int (nI (1 + j)), .int (nI ((1 + (A1.length + 1 + B1.length)) + (A2.length + 1 + B2.length)))]))) a = some (.inr (0, [.ref a1, .long k, .long v0, .ref a2, .int (nI (1 + j)), .int (nI ((1 + (A1.length + 1 + B1.length)) + (A2.length + 1 + B2.length)))])) := qs_self
        replace hP : qP D N0 (qs h a (.inr (0, [.ref a1, .long k, .long v0, .ref a2, .int (nI (1 + j)), .int (nI ((1 + (A1.length + 1 + B1.length)) + (A2.length + 1 + B2.length)))]))) H := hP
        exact q_vret C hP hS ⟨rfl, qnode_eq (by omega) (by first | (simp only [List.length_append, List.length_cons, List.length_nil]; done) | (simp only [List.length_append, List.length_cons, List.length_nil]; omega))⟩ (by omega) dX0_init_109
      · replace c62 : ¬ i < j := fun zq => c62 ((nI_ltI (a := i) (b := j) (by omega) (by omega)).mpr zq)
        refine lv_iload hx hb dX0_init_65 (lv_at hl 1 rfl) ?_
        refine lv_goto (tgt := 72) hx hb dX0_init_67 (by decide) ?_
        refine q_iaddN hx hb dX0_init_72 ?_
        refine q_putF C hP hS ha rfl inX0 tyX0 tyX0_ok nmX0 4 (by decide) g498 rfl rfl rfl rfl rfl (Nat.le_of_ble_eq_true rfl) dX0_init_73 (fun H locs hP hS => ?_)
        rw [qs_qs] at hP
        replace f1 := qs_re (o' := (.inr (0, [.ref a1, .long k, .long v0, .ref a2, .int (nI (1 + i)), .int 0]))) n_a_a1 f1
        replace f2 := qs_re (o' := (.inr (0, [.ref a1, .long k, .long v0, .ref a2, .int (nI (1 + i)), .int 0]))) n_a_a2 f2
        replace ha : (qs h a (.inr (0, [.ref a1, .long k, .long v0, .ref a2, .int (nI (1 + i)), .int 0]))) a = some (.inr (0, [.ref a1, .long k, .long v0, .ref a2, .int (nI (1 + i)), .int 0])) := qs_self
        replace hP : qP D N0 (qs h a (.inr (0, [.ref a1, .long k, .long v0, .ref a2, .int (nI (1 + i)), .int 0]))) H := hP
        refine lv_aload_n hx hb dX0_init_76 rfl (lv_at hl 2 rfl) ?_
        refine lv_iconst (v := nI 1) hx hb dX0_init_77 (by decide) ?_
        refine lv_aload_n hx hb dX0_init_78 rfl (lv_at hl 3 rfl) ?_
        refine lv_ifnonnull (tgt := 86) hx hb dX0_init_79 (by decide) ?_
        refine lv_aload_n hx hb dX0_init_86 rfl (lv_at hl 3 rfl) ?_
        refine q_get C hP f1 rfl inX0 5 (by decide) g499 rfl dX0_init_87 ?_
        refine q_iaddN hx hb dX0_init_90 ?_
        refine lv_aload hx hb dX0_init_91 (lv_at hl 6 rfl) ?_
        refine lv_ifnonnull (tgt := 100) hx hb dX0_init_93 (by decide) ?_
        refine lv_aload hx hb dX0_init_100 (lv_at hl 6 rfl) ?_
        refine q_get C hP f2 rfl inX0 5 (by decide) g499 rfl dX0_init_102 ?_
        refine q_iaddN hx hb dX0_init_105 ?_
        refine q_putF C hP hS ha rfl inX0 tyX0 tyX0_ok nmX0 5 (by decide) g499 rfl rfl rfl rfl rfl (Nat.le_of_ble_eq_true rfl) dX0_init_106 (fun H locs hP hS => ?_)
        rw [qs_qs] at hP
        replace f1 := qs_re (o' := (.inr (0, [.ref a1, .long k, .long v0, .ref a2, .int (nI (1 + i)), .int (nI ((1 + (A1.length + 1 + B1.length)) + (A2.length + 1 + B2.length)))]))) n_a_a1 f1
        replace f2 := qs_re (o' := (.inr (0, [.ref a1, .long k, .long v0, .ref a2, .int (nI (1 + i)), .int (nI ((1 + (A1.length + 1 + B1.length)) + (A2.length + 1 + B2.length)))]))) n_a_a2 f2
        replace ha : (qs h a (.inr (0, [.ref a1, .long k, .long v0, .ref a2, .int (nI (1 + i)), .int (nI ((1 + (A1.length + 1 + B1.length)) + (A2.length + 1 + B2.length)))]))) a = some (.inr (0, [.ref a1, .long k, .long v0, .ref a2, .int (nI (1 + i)), .int (nI ((1 + (A1.length + 1 + B1.length)) + (A2.length + 1 + B2.length)))])) := qs_self
        replace hP : qP D N0 (qs h a (.inr (0, [.ref a1, .long k, .long v0, .ref a2, .int (nI (1 + i)), .int (nI ((1 + (A1.length + 1 + B1.length)) + (A2.length + 1 + B2.length)))]))) H := hP
        exact q_vret C hP hS ⟨rfl, qnode_eq (by omega) (by first | (simp only [List.length_append, List.length_cons, List.length_nil]; done) | (simp only [List.length_append, List.length_cons, List.length_nil]; omega))⟩ (by omega) dX0_init_109

theorem dX0_leftLifted_0 : decode cX0_leftLifted 0 = .ok (.aload_n 0, 1) := by decide +kernel
theorem dX0_leftLifted_1 : decode cX0_leftLifted 1 = .ok (.getfield 20, 3) := by decide +kernel
theorem dX0_leftLifted_4 : decode cX0_leftLifted 4 = .ok (.astore 6, 2) := by decide +kernel
theorem dX0_leftLifted_6 : decode cX0_leftLifted 6 = .ok (.aload 6, 2) := by decide +kernel
theorem dX0_leftLifted_8 : decode cX0_leftLifted 8 = .ok (.ifnull 18, 3) := by decide +kernel
theorem dX0_leftLifted_11 : decode cX0_leftLifted 11 = .ok (.aload 6, 2) := by decide +kernel
theorem dX0_leftLifted_13 : decode cX0_leftLifted 13 = .ok (.getfield 23, 3) := by decide +kernel
theorem dX0_leftLifted_16 : decode cX0_leftLifted 16 = .ok (.aload_n 0, 1) := by decide +kernel
theorem dX0_leftLifted_17 : decode cX0_leftLifted 17 = .ok (.getfield 7, 3) := by decide +kernel
theorem dX0_leftLifted_20 : decode cX0_leftLifted 20 = .ok (.invokestatic 30, 3) := by decide +kernel
theorem dX0_leftLifted_23 : decode cX0_leftLifted 23 = .ok (.if_icmp .gt 36, 3) := by decide +kernel
theorem dX0_leftLifted_26 : decode cX0_leftLifted 26 = .ok (.new 8, 3) := by decide +kernel
theorem dX0_leftLifted_29 : decode cX0_leftLifted 29 = .ok (.dup, 1) := by decide +kernel
theorem dX0_leftLifted_30 : decode cX0_leftLifted 30 = .ok (.aload_n 0, 1) := by decide +kernel
theorem dX0_leftLifted_31 : decode cX0_leftLifted 31 = .ok (.getfield 7, 3) := by decide +kernel
theorem dX0_leftLifted_34 : decode cX0_leftLifted 34 = .ok (.aload_n 0, 1) := by decide +kernel
theorem dX0_leftLifted_35 : decode cX0_leftLifted 35 = .ok (.getfield 13, 3) := by decide +kernel
theorem dX0_leftLifted_38 : decode cX0_leftLifted 38 = .ok (.aload_n 0, 1) := by decide +kernel
theorem dX0_leftLifted_39 : decode cX0_leftLifted 39 = .ok (.getfield 17, 3) := by decide +kernel
theorem dX0_leftLifted_42 : decode cX0_leftLifted 42 = .ok (.new 8, 3) := by decide +kernel
theorem dX0_leftLifted_45 : decode cX0_leftLifted 45 = .ok (.dup, 1) := by decide +kernel
theorem dX0_leftLifted_46 : decode cX0_leftLifted 46 = .ok (.aload 6, 2) := by decide +kernel
theorem dX0_leftLifted_48 : decode cX0_leftLifted 48 = .ok (.lload_n 1, 1) := by decide +kernel
theorem dX0_leftLifted_49 : decode cX0_leftLifted 49 = .ok (.lload_n 3, 1) := by decide +kernel
theorem dX0_leftLifted_50 : decode cX0_leftLifted 50 = .ok (.aload 5, 2) := by decide +kernel
theorem dX0_leftLifted_52 : decode cX0_leftLifted 52 = .ok (.invokespecial 41, 3) := by decide +kernel
theorem dX0_leftLifted_55 : decode cX0_leftLifted 55 = .ok (.invokespecial 41, 3) := by decide +kernel
theorem dX0_leftLifted_58 : decode cX0_leftLifted 58 = .ok (.areturn, 1) := by decide +kernel
theorem dX0_leftLifted_59 : decode cX0_leftLifted 59 = .ok (.new 8, 3) := by decide +kernel
theorem dX0_leftLifted_62 : decode cX0_leftLifted 62 = .ok (.dup, 1) := by decide +kernel
theorem dX0_leftLifted_63 : decode cX0_leftLifted 63 = .ok (.aload_n 0, 1) := by decide +kernel
theorem dX0_leftLifted_64 : decode cX0_leftLifted 64 = .ok (.getfield 7, 3) := by decide +kernel
theorem dX0_leftLifted_67 : decode cX0_leftLifted 67 = .ok (.aload_n 0, 1) := by decide +kernel
theorem dX0_leftLifted_68 : decode cX0_leftLifted 68 = .ok (.getfield 13, 3) := by decide +kernel
theorem dX0_leftLifted_71 : decode cX0_leftLifted 71 = .ok (.aload_n 0, 1) := by decide +kernel
theorem dX0_leftLifted_72 : decode cX0_leftLifted 72 = .ok (.getfield 17, 3) := by decide +kernel
theorem dX0_leftLifted_75 : decode cX0_leftLifted 75 = .ok (.aload 6, 2) := by decide +kernel
theorem dX0_leftLifted_77 : decode cX0_leftLifted 77 = .ok (.getfield 7, 3) := by decide +kernel
theorem dX0_leftLifted_80 : decode cX0_leftLifted 80 = .ok (.invokespecial 41, 3) := by decide +kernel
theorem dX0_leftLifted_83 : decode cX0_leftLifted 83 = .ok (.astore 7, 2) := by decide +kernel
theorem dX0_leftLifted_85 : decode cX0_leftLifted 85 = .ok (.new 8, 3) := by decide +kernel
theorem dX0_leftLifted_88 : decode cX0_leftLifted 88 = .ok (.dup, 1) := by decide +kernel
theorem dX0_leftLifted_89 : decode cX0_leftLifted 89 = .ok (.aload 7, 2) := by decide +kernel
theorem dX0_leftLifted_91 : decode cX0_leftLifted 91 = .ok (.aload 6, 2) := by decide +kernel
theorem dX0_leftLifted_93 : decode cX0_leftLifted 93 = .ok (.getfield 13, 3) := by decide +kernel
theorem dX0_leftLifted_96 : decode cX0_leftLifted 96 = .ok (.aload 6, 2) := by decide +kernel
theorem dX0_leftLifted_98 : decode cX0_leftLifted 98 = .ok (.getfield 17, 3) := by decide +kernel
theorem dX0_leftLifted_101 : decode cX0_leftLifted 101 = .ok (.new 8, 3) := by decide +kernel
theorem dX0_leftLifted_104 : decode cX0_leftLifted 104 = .ok (.dup, 1) := by decide +kernel
theorem dX0_leftLifted_105 : decode cX0_leftLifted 105 = .ok (.aload 6, 2) := by decide +kernel
theorem dX0_leftLifted_107 : decode cX0_leftLifted 107 = .ok (.getfield 20, 3) := by decide +kernel
theorem dX0_leftLifted_110 : decode cX0_leftLifted 110 = .ok (.lload_n 1, 1) := by decide +kernel
theorem dX0_leftLifted_111 : decode cX0_leftLifted 111 = .ok (.lload_n 3, 1) := by decide +kernel
theorem dX0_leftLifted_112 : decode cX0_leftLifted 112 = .ok (.aload 5, 2) := by decide +kernel
theorem dX0_leftLifted_114 : decode cX0_leftLifted 114 = .ok (.invokespecial 41, 3) := by decide +kernel
theorem dX0_leftLifted_117 : decode cX0_leftLifted 117 = .ok (.invokespecial 41, 3) := by decide +kernel
theorem dX0_leftLifted_120 : decode cX0_leftLifted 120 = .ok (.areturn, 1) := by decide +kernel
set_option maxRecDepth 100000 in
set_option maxHeartbeats 4000000 in
theorem c_X0_leftLifted (l : Launch) (D : va_G) (cy : Nat → ClassId) (N0 : Nat) (h : qH) (x : Option Nat) (k v0 : Int64) (y : Option Nat) (i j : Nat) (A B : qKV) (hA : qBr h i x A) (hB : qBr h j y B) (hL : A.length + B.length < 1000000) (hij : i = j + 2) : qC l D cy N0 yX0_leftLifted cX0_leftLifted 8 (some (.object RX0)) 2 40 3 18 [va_rf x, .long k, .long v0, va_rf y] h (fun v h' => ∃ (r9 : Option Nat) (n9 : Nat), v = some (va_rf r9) ∧ qle h h' ∧ qBr h' n9 r9 (A ++ (k, v0) :: B) ∧ i ≤ n9 ∧ n9 ≤ i + 1) (fun E h' => False) := by
  refine q_ofW (by decide) (by simp [lg_sl, q_catrf, q_cati, q_catl, q_cata, q_catn]) ?_
  intro p e s m below meth c ls C hP hl
  have hx := C.1
  have hb := C.2.1
  have hS : va_S (qA N0) s.heap s.heap [] := va_S.rf
  have hl : lv_has ls 8 [(0, va_rf x), (1, .long k), (3, .long v0), (5, va_rf y)] := by simpa [lv_args, q_catrf, q_cati, q_catl, q_cata, q_catn] using hl
  have hle : qle h h := qle_rf
  have zA := hA.len
  have zB := hB.len
  rcases hA.inv with ⟨rfl, rfl, rfl⟩ | ⟨a1, l1, k1, v1, r1, i1, j1, A1, B1, rfl, f1, hl1, hr1, rfl, hg11, hg12, hg13, hg14, hg15, hg16⟩
  · exfalso; omega
  · have zl1 := hl1.len
    have zr1 := hr1.len
    have eL1 : (A1 ++ (k1, v1) :: B1).length = A1.length + (B1.length + 1) := by rw [List.length_append, List.length_cons]
    simp only [List.length_append, List.length_cons, List.length_nil] at hL zA zB
    rcases hr1.inv with ⟨rfl, rfl, rfl⟩ | ⟨a2, l2, k2, v2, r2, i2, j2, A2, B2, rfl, f2, hl2, hr2, rfl, hg21, hg22, hg23, hg24, hg25, hg26⟩
    · refine lv_aload_n hx hb dX0_leftLifted_0 rfl (lv_at hl 0 rfl) ?_
      refine q_get C hP f1 rfl inX0 3 (by decide) g497 rfl dX0_leftLifted_1 ?_
      refine lv_astoreN (lv' := [(6, .null), (0, .ref a1), (1, .long k), (3, .long v0), (5, va_rf y)]) hx hb dX0_leftLifted_4 hl (by decide) (by cases y <;> rfl) (fun ls hl => ?_)
      refine lv_aloadN hx hb dX0_leftLifted_6 (lv_at hl 0 rfl) ?_
      refine lv_ifnullN (tgt := 26) hx hb dX0_leftLifted_8 (by decide) ?_
      refine q_new (ci := 0) (fs := [.null, .long 0, .long 0, .null, .int 0, .int 0]) C hP hS rfl inX0 tyX0 tyX0_ok g485 g486 g11 (fun j hj => by rcases (show j = 0 ∨ j = 1 ∨ j = 2 ∨ j = 3 ∨ j = 4 ∨ j = 5 by omega) with rfl | rfl | rfl | rfl | rfl | rfl <;> rfl) (by first | decide | omega) (by first | decide | omega) dX0_leftLifted_26 (fun q26 H eq26 hP hS => ?_)
      obtain ⟨hv1, ehv1⟩ : ∃ z : qH, z = qs h q26 (.inr (0, [.null, .long 0, .long 0, .null, .int 0, .int 0])) := ⟨_, rfl⟩
      rw [← ehv1] at hP
      have khv1 : ∀ b o, b ≠ q26 → h b = some o → hv1 b = some o := by rw [ehv1]; exact fun b o nb hb => (qs_ne nb).trans hb
      have kp : qKp h hv1 := fun b o hb _ => khv1 b o (qne_of eq26 hb) hb
      replace hB := hB.kp kp
      replace hA := hA.kp kp
      replace hl1 := hl1.kp kp
      clear kp
      have n_q26_a1 : a1 ≠ q26 := qne_of eq26 f1
      replace f1 := khv1 _ _ n_q26_a1 f1
      have oq26 := qle_none hle eq26
      replace hle : qle h hv1 := fun b o hb => khv1 b o (qne_of oq26 hb) (hle b o hb)
      have fq26 : hv1 q26 = some (.inr (0, [.null, .long 0, .long 0, .null, .int 0, .int 0])) := by rw [ehv1]; exact qs_self
      clear ehv1
      refine lv_dup hx hb dX0_leftLifted_29 rfl ?_
      refine lv_aload_n hx hb dX0_leftLifted_30 rfl (lv_at hl 1 rfl) ?_
      refine q_get C hP f1 rfl inX0 0 (by decide) g491 rfl dX0_leftLifted_31 ?_
      refine lv_aload_n hx hb dX0_leftLifted_34 rfl (lv_at hl 1 rfl) ?_
      refine q_get C hP f1 rfl inX0 1 (by decide) g492 rfl dX0_leftLifted_35 ?_
      refine lv_aload_n hx hb dX0_leftLifted_38 rfl (lv_at hl 1 rfl) ?_
      refine q_get C hP f1 rfl inX0 2 (by decide) g494 rfl dX0_leftLifted_39 ?_
      refine q_new (ci := 0) (fs := [.null, .long 0, .long 0, .null, .int 0, .int 0]) C hP hS rfl inX0 tyX0 tyX0_ok g485 g486 g11 (fun j hj => by rcases (show j = 0 ∨ j = 1 ∨ j = 2 ∨ j = 3 ∨ j = 4 ∨ j = 5 by omega) with rfl | rfl | rfl | rfl | rfl | rfl <;> rfl) (by first | decide | omega) (by first | decide | omega) dX0_leftLifted_42 (fun q42 H eq42 hP hS => ?_)
      obtain ⟨hv2, ehv2⟩ : ∃ z : qH, z = qs hv1 q42 (.inr (0, [.null, .long 0, .long 0, .null, .int 0, .int 0])) := ⟨_, rfl⟩
      rw [← ehv2] at hP
      have khv2 : ∀ b o, b ≠ q42 → hv1 b = some o → hv2 b = some o := by rw [ehv2]; exact fun b o nb hb => (qs_ne nb).trans hb
      have kp : qKp hv1 hv2 := fun b o hb _ => khv2 b o (qne_of eq42 hb) hb
      replace hB := hB.kp kp
      replace hA := hA.kp kp
      replace hl1 := hl1.kp kp
      clear kp
      have n_q42_a1 : a1 ≠ q42 := qne_of eq42 f1
      replace f1 := khv2 _ _ n_q42_a1 f1
      have n_q42_q26 : q26 ≠ q42 := qne_of eq42 fq26
      replace fq26 := khv2 _ _ n_q42_q26 fq26
      have oq42 := qle_none hle eq42
      replace hle : qle h hv2 := fun b o hb => khv2 b o (qne_of oq42 hb) (hle b o hb)
      have fq42 : hv2 q42 = some (.inr (0, [.null, .long 0, .long 0, .null, .int 0, .int 0])) := by rw [ehv2]; exact qs_self
      clear ehv2
      refine lv_dup hx hb dX0_leftLifted_45 rfl ?_
      refine lv_aloadN hx hb dX0_leftLifted_46 (lv_at hl 0 rfl) ?_
      refine lv_lload_n hx hb dX0_leftLifted_48 rfl (lv_at hl 2 rfl) ?_
      refine lv_lload_n hx hb dX0_leftLifted_49 rfl (lv_at hl 3 rfl) ?_
      refine q_aload hx hb dX0_leftLifted_50 (lv_at hl 4 rfl) ?_
      refine q_callI (rest := [.ref q42, .long v1, .long k1, va_rf l1, .ref q26, .ref q26]) C (c_X0_init l D cy N0 hv2 q42 none k v0 y 0 j (max 0 j + 1) ([] : qKV) B fq42 qBr.nil hB (by omega) (by omega)) kX0_init g487 g488 rfl hP hS (by first | decide | omega) hl.1 rfl (by simp [q_catrf, q_cati, q_catl, q_cata, q_catn]) (by first | decide | omega) dX0_leftLifted_52 (fun v hh1 H locs hq hP hS => ?_)
      obtain ⟨rfl, rfl⟩ := hq
      replace hP : qP D N0 (qs hv2 q42 (.inr (0, [.null, .long k, .long v0, va_rf y, .int (nI (max 0 j + 1)), .int (nI (([] : qKV).length + 1 + B.length))]))) H := hP
      obtain ⟨hv3, ehv3⟩ : ∃ z : qH, z = qs hv2 q42 (.inr (0, [.null, .long k, .long v0, va_rf y, .int (nI (max 0 j + 1)), .int (nI (([] : qKV).length + 1 + B.length))])) := ⟨_, rfl⟩
      rw [← ehv3] at hP
      have khv3 : ∀ b o, b ≠ q42 → hv2 b = some o → hv3 b = some o := by rw [ehv3]; exact fun b o nb hb => (qs_ne nb).trans hb
      have kp : qKp hv2 hv3 := fun b o hb nb => khv3 b o (fun q => by subst q; exact nb (Option.some.inj (hb.symm.trans fq42))) hb
      replace hB := hB.kp kp
      replace hA := hA.kp kp
      replace hl1 := hl1.kp kp
      clear kp
      replace f1 := khv3 _ _ n_q42_a1 f1
      replace fq26 := khv3 _ _ n_q42_q26 fq26
      replace hle : qle h hv3 := fun b o hb => khv3 b o (qne_of oq42 hb) (hle b o hb)
      replace fq42 : hv3 q42 = some (.inr (0, [.null, .long k, .long v0, va_rf y, .int (nI (max 0 j + 1)), .int (nI (([] : qKV).length + 1 + B.length))])) := by rw [ehv3]; exact qs_self
      clear ehv3
      have bq42 := qBr.mk fq42 qBr.nil hB ⟨by omega, by omega, by omega, by omega, by omega, by omega⟩
      refine q_callI (rest := [.ref q26]) C (c_X0_init l D cy N0 hv3 q26 l1 k1 v1 (some q42) i1 (max 0 j + 1) (max i1 (max 0 j + 1) + 1) A1 (([] : qKV) ++ (k, v0) :: B) fq26 hl1 bq42 (by omega) (by omega)) kX0_init g487 g488 rfl hP hS (by first | decide | omega) hl.1 rfl (by simp [q_catrf, q_cati, q_catl, q_cata, q_catn]) (by first | decide | omega) dX0_leftLifted_55 (fun v hh2 H locs hq hP hS => ?_)
      obtain ⟨rfl, rfl⟩ := hq
      replace hP : qP D N0 (qs hv3 q26 (.inr (0, [va_rf l1, .long k1, .long v1, .ref q42, .int (nI (max i1 (max 0 j + 1) + 1)), .int (nI (A1.length + 1 + (([] : qKV) ++ (k, v0) :: B).length))]))) H := hP
      obtain ⟨hv4, ehv4⟩ : ∃ z : qH, z = qs hv3 q26 (.inr (0, [va_rf l1, .long k1, .long v1, .ref q42, .int (nI (max i1 (max 0 j + 1) + 1)), .int (nI (A1.length + 1 + (([] : qKV) ++ (k, v0) :: B).length))])) := ⟨_, rfl⟩
      rw [← ehv4] at hP
      have khv4 : ∀ b o, b ≠ q26 → hv3 b = some o → hv4 b = some o := by rw [ehv4]; exact fun b o nb hb => (qs_ne nb).trans hb
      have kp : qKp hv3 hv4 := fun b o hb nb => khv4 b o (fun q => by subst q; exact nb (Option.some.inj (hb.symm.trans fq26))) hb
      replace hB := hB.kp kp
      replace hA := hA.kp kp
      replace hl1 := hl1.kp kp
      replace bq42 := bq42.kp kp
      clear kp
      replace f1 := khv4 _ _ n_q26_a1 f1
      replace fq42 := khv4 _ _ n_q42_q26.symm fq42
      replace hle : qle h hv4 := fun b o hb => khv4 b o (qne_of oq26 hb) (hle b o hb)
      replace fq26 : hv4 q26 = some (.inr (0, [va_rf l1, .long k1, .long v1, .ref q42, .int (nI (max i1 (max 0 j + 1) + 1)), .int (nI (A1.length + 1 + (([] : qKV) ++ (k, v0) :: B).length))])) := by rw [ehv4]; exact qs_self
      clear ehv4
      have bq26 := qBr.mk fq26 hl1 bq42 ⟨by omega, by omega, by omega, by omega, by omega, by omega⟩
      exact q_aret (v := (some q26)) C (Or.inl ⟨_, rfl⟩) hP hS ⟨(some q26), (max i1 (max 0 j + 1) + 1), rfl, hle, by simpa using bq26, by omega, by omega⟩ (by omega) dX0_leftLifted_58
    · have zl2 := hl2.len
      have zr2 := hr2.len
      have eL2 : (A2 ++ (k2, v2) :: B2).length = A2.length + (B2.length + 1) := by rw [List.length_append, List.length_cons]
      simp only [List.length_append, List.length_cons, List.length_nil] at hL zA zB zr1
      refine lv_aload_n hx hb dX0_leftLifted_0 rfl (lv_at hl 0 rfl) ?_
      refine q_get C hP f1 rfl inX0 3 (by decide) g497 rfl dX0_leftLifted_1 ?_
      refine lv_astore (lv' := [(6, .ref a2), (0, .ref a1), (1, .long k), (3, .long v0), (5, va_rf y)]) hx hb dX0_leftLifted_4 hl (by decide) (by cases y <;> rfl) (fun ls hl => ?_)
      refine lv_aload hx hb dX0_leftLifted_6 (lv_at hl 0 rfl) ?_
      refine lv_ifnull hx hb dX0_leftLifted_8 ?_
      refine lv_aload hx hb dX0_leftLifted_11 (lv_at hl 0 rfl) ?_
      refine q_get C hP f2 rfl inX0 4 (by decide) g498 rfl dX0_leftLifted_13 ?_
      refine lv_aload_n hx hb dX0_leftLifted_16 rfl (lv_at hl 1 rfl) ?_
      refine q_get C hP f1 rfl inX0 0 (by decide) g491 rfl dX0_leftLifted_17 ?_
      refine q_callS (rest := [.int (nI j1)]) C (c_X0_heightOf l D cy N0 h l1 (nI i1) hl1.fiH) kX0_heightOf g475 g476 hP hS (by first | decide | omega) hl.1 rfl (by simp [q_catrf, q_cati, q_catl, q_cata, q_catn]) (by first | decide | omega) dX0_leftLifted_20 (fun q ce E h' H1 locs1 hE => hE.elim) (fun v hh3 H locs hq hP hS => ?_)
      obtain ⟨rfl, rfl⟩ := hq
      refine lv_icmp_gt (tgt := 59) hx hb dX0_leftLifted_23 (by decide) (fun c23 => ?_) (fun c23 => ?_)
      · replace c23 : i1 < j1 := (nI_ltI (a := i1) (b := j1) (by omega) (by omega)).mp c23
        refine q_new (ci := 0) (fs := [.null, .long 0, .long 0, .null, .int 0, .int 0]) C hP hS rfl inX0 tyX0 tyX0_ok g485 g486 g11 (fun j hj => by rcases (show j = 0 ∨ j = 1 ∨ j = 2 ∨ j = 3 ∨ j = 4 ∨ j = 5 by omega) with rfl | rfl | rfl | rfl | rfl | rfl <;> rfl) (by first | decide | omega) (by first | decide | omega) dX0_leftLifted_59 (fun q59 H eq59 hP hS => ?_)
        obtain ⟨hv5, ehv5⟩ : ∃ z : qH, z = qs h q59 (.inr (0, [.null, .long 0, .long 0, .null, .int 0, .int 0])) := ⟨_, rfl⟩
        rw [← ehv5] at hP
        have khv5 : ∀ b o, b ≠ q59 → h b = some o → hv5 b = some o := by rw [ehv5]; exact fun b o nb hb => (qs_ne nb).trans hb
        have kp : qKp h hv5 := fun b o hb _ => khv5 b o (qne_of eq59 hb) hb
        replace hB := hB.kp kp
        replace hA := hA.kp kp
        replace hl1 := hl1.kp kp
        replace hr1 := hr1.kp kp
        replace hl2 := hl2.kp kp
        replace hr2 := hr2.kp kp
        clear kp
        have n_q59_a1 : a1 ≠ q59 := qne_of eq59 f1
        replace f1 := khv5 _ _ n_q59_a1 f1
        have n_q59_a2 : a2 ≠ q59 := qne_of eq59 f2
        replace f2 := khv5 _ _ n_q59_a2 f2
        have oq59 := qle_none hle eq59
        replace hle : qle h hv5 := fun b o hb => khv5 b o (qne_of oq59 hb) (hle b o hb)
        have fq59 : hv5 q59 = some (.inr (0, [.null, .long 0, .long 0, .null, .int 0, .int 0])) := by rw [ehv5]; exact qs_self
        clear ehv5
        refine lv_dup hx hb dX0_leftLifted_62 rfl ?_
        refine lv_aload_n hx hb dX0_leftLifted_63 rfl (lv_at hl 1 rfl) ?_
        refine q_get C hP f1 rfl inX0 0 (by decide) g491 rfl dX0_leftLifted_64 ?_
        refine lv_aload_n hx hb dX0_leftLifted_67 rfl (lv_at hl 1 rfl) ?_
        refine q_get C hP f1 rfl inX0 1 (by decide) g492 rfl dX0_leftLifted_68 ?_
        refine lv_aload_n hx hb dX0_leftLifted_71 rfl (lv_at hl 1 rfl) ?_
        refine q_get C hP f1 rfl inX0 2 (by decide) g494 rfl dX0_leftLifted_72 ?_
        refine lv_aload hx hb dX0_leftLifted_75 (lv_at hl 0 rfl) ?_
        refine q_get C hP f2 rfl inX0 0 (by decide) g491 rfl dX0_leftLifted_77 ?_
        refine q_callI (rest := [.ref q59]) C (c_X0_init l D cy N0 hv5 q59 l1 k1 v1 l2 i1 i2 (max i1 i2 + 1) A1 A2 fq59 hl1 hl2 (by omega) (by omega)) kX0_init g487 g488 rfl hP hS (by first | decide | omega) hl.1 rfl (by simp [q_catrf, q_cati, q_catl, q_cata, q_catn]) (by first | decide | omega) dX0_leftLifted_80 (fun v hh4 H locs hq hP hS => ?_)
        obtain ⟨rfl, rfl⟩ := hq
        replace hP : qP D N0 (qs hv5 q59 (.inr (0, [va_rf l1, .long k1, .long v1, va_rf l2, .int (nI (max i1 i2 + 1)), .int (nI (A1.length + 1 + A2.length))]))) H := hP
        obtain ⟨hv6, ehv6⟩ : ∃ z : qH, z = qs hv5 q59 (.inr (0, [va_rf l1, .long k1, .long v1, va_rf l2, .int (nI (max i1 i2 + 1)), .int (nI (A1.length + 1 + A2.length))])) := ⟨_, rfl⟩
        rw [← ehv6] at hP
        have khv6 : ∀ b o, b ≠ q59 → hv5 b = some o → hv6 b = some o := by rw [ehv6]; exact fun b o nb hb => (qs_ne nb).trans hb
        have kp : qKp hv5 hv6 := fun b o hb nb => khv6 b o (fun q => by subst q; exact nb (Option.some.inj (hb.symm.trans fq59))) hb
        replace hB := hB.kp kp
        replace hA := hA.kp kp
        replace hl1 := hl1.kp kp
        replace hr1 := hr1.kp kp
        replace hl2 := hl2.kp kp
        replace hr2 := hr2.kp kp
        clear kp
        replace f1 := khv6 _ _ n_q59_a1 f1
        replace f2 := khv6 _ _ n_q59_a2 f2
        replace hle : qle h hv6 := fun b o hb => khv6 b o (qne_of oq59 hb) (hle b o hb)
        replace fq59 : hv6 q59 = some (.inr (0, [va_rf l1, .long k1, .long v1, va_rf l2, .int (nI (max i1 i2 + 1)), .int (nI (A1.length + 1 + A2.length))])) := by rw [ehv6]; exact qs_self
        clear ehv6
        have bq59 := qBr.mk fq59 hl1 hl2 ⟨by omega, by omega, by omega, by omega, by omega, by omega⟩
        refine lv_astore (lv' := [(7, .ref q59), (6, .ref a2), (0, .ref a1), (1, .long k), (3, .long v0), (5, va_rf y)]) hx hb dX0_leftLifted_83 hl (by decide) rfl (fun ls hl => ?_)
        refine q_new (ci := 0) (fs := [.null, .long 0, .long 0, .null, .int 0, .int 0]) C hP hS rfl inX0 tyX0 tyX0_ok g485 g486 g11 (fun j hj => by rcases (show j = 0 ∨ j = 1 ∨ j = 2 ∨ j = 3 ∨ j = 4 ∨ j = 5 by omega) with rfl | rfl | rfl | rfl | rfl | rfl <;> rfl) (by first | decide | omega) (by first | decide | omega) dX0_leftLifted_85 (fun q85 H eq85 hP hS => ?_)
        obtain ⟨hv7, ehv7⟩ : ∃ z : qH, z = qs hv6 q85 (.inr (0, [.null, .long 0, .long 0, .null, .int 0, .int 0])) := ⟨_, rfl⟩
        rw [← ehv7] at hP
        have khv7 : ∀ b o, b ≠ q85 → hv6 b = some o → hv7 b = some o := by rw [ehv7]; exact fun b o nb hb => (qs_ne nb).trans hb
        have kp : qKp hv6 hv7 := fun b o hb _ => khv7 b o (qne_of eq85 hb) hb
        replace hB := hB.kp kp
        replace hA := hA.kp kp
        replace hl1 := hl1.kp kp
        replace hr1 := hr1.kp kp
        replace hl2 := hl2.kp kp
        replace hr2 := hr2.kp kp
        replace bq59 := bq59.kp kp
        clear kp
        have n_q85_a1 : a1 ≠ q85 := qne_of eq85 f1
        replace f1 := khv7 _ _ n_q85_a1 f1
        have n_q85_a2 : a2 ≠ q85 := qne_of eq85 f2
        replace f2 := khv7 _ _ n_q85_a2 f2
        have n_q85_q59 : q59 ≠ q85 := qne_of eq85 fq59
        replace fq59 := khv7 _ _ n_q85_q59 fq59
        have oq85 := qle_none hle eq85
        replace hle : qle h hv7 := fun b o hb => khv7 b o (qne_of oq85 hb) (hle b o hb)
        have fq85 : hv7 q85 = some (.inr (0, [.null, .long 0, .long 0, .null, .int 0, .int 0])) := by rw [ehv7]; exact qs_self
        clear ehv7
        refine lv_dup hx hb dX0_leftLifted_88 rfl ?_
        refine lv_aload hx hb dX0_leftLifted_89 (lv_at hl 0 rfl) ?_
        refine lv_aload hx hb dX0_leftLifted_91 (lv_at hl 1 rfl) ?_
        refine q_get C hP f2 rfl inX0 1 (by decide) g492 rfl dX0_leftLifted_93 ?_
        refine lv_aload hx hb dX0_leftLifted_96 (lv_at hl 1 rfl) ?_
        refine q_get C hP f2 rfl inX0 2 (by decide) g494 rfl dX0_leftLifted_98 ?_
        refine q_new (ci := 0) (fs := [.null, .long 0, .long 0, .null, .int 0, .int 0]) C hP hS rfl inX0 tyX0 tyX0_ok g485 g486 g11 (fun j hj => by rcases (show j = 0 ∨ j = 1 ∨ j = 2 ∨ j = 3 ∨ j = 4 ∨ j = 5 by omega) with rfl | rfl | rfl | rfl | rfl | rfl <;> rfl) (by first | decide | omega) (by first | decide | omega) dX0_leftLifted_101 (fun q101 H eq101 hP hS => ?_)
        obtain ⟨hv8, ehv8⟩ : ∃ z : qH, z = qs hv7 q101 (.inr (0, [.null, .long 0, .long 0, .null, .int 0, .int 0])) := ⟨_, rfl⟩
        rw [← ehv8] at hP
        have khv8 : ∀ b o, b ≠ q101 → hv7 b = some o → hv8 b = some o := by rw [ehv8]; exact fun b o nb hb => (qs_ne nb).trans hb
        have kp : qKp hv7 hv8 := fun b o hb _ => khv8 b o (qne_of eq101 hb) hb
        replace hB := hB.kp kp
        replace hA := hA.kp kp
        replace hl1 := hl1.kp kp
        replace hr1 := hr1.kp kp
        replace hl2 := hl2.kp kp
        replace hr2 := hr2.kp kp
        replace bq59 := bq59.kp kp
        clear kp
        have n_q101_a1 : a1 ≠ q101 := qne_of eq101 f1
        replace f1 := khv8 _ _ n_q101_a1 f1
        have n_q101_a2 : a2 ≠ q101 := qne_of eq101 f2
        replace f2 := khv8 _ _ n_q101_a2 f2
        have n_q101_q59 : q59 ≠ q101 := qne_of eq101 fq59
        replace fq59 := khv8 _ _ n_q101_q59 fq59
        have n_q101_q85 : q85 ≠ q101 := qne_of eq101 fq85
        replace fq85 := khv8 _ _ n_q101_q85 fq85
        have oq101 := qle_none hle eq101
        replace hle : qle h hv8 := fun b o hb => khv8 b o (qne_of oq101 hb) (hle b o hb)
        have fq101 : hv8 q101 = some (.inr (0, [.null, .long 0, .long 0, .null, .int 0, .int 0])) := by rw [ehv8]; exact qs_self
        clear ehv8
        refine lv_dup hx hb dX0_leftLifted_104 rfl ?_
        refine lv_aload hx hb dX0_leftLifted_105 (lv_at hl 1 rfl) ?_
        refine q_get C hP f2 rfl inX0 3 (by decide) g497 rfl dX0_leftLifted_107 ?_
        refine lv_lload_n hx hb dX0_leftLifted_110 rfl (lv_at hl 3 rfl) ?_
        refine lv_lload_n hx hb dX0_leftLifted_111 rfl (lv_at hl 4 rfl) ?_
        refine q_aload hx hb dX0_leftLifted_112 (lv_at hl 5 rfl) ?_
        refine q_callI (rest := [.ref q101, .long v2, .long k2, .ref q59, .ref q85, .ref q85]) C (c_X0_init l D cy N0 hv8 q101 r2 k v0 y j2 j (max j2 j + 1) B2 B fq101 hr2 hB (by omega) (by omega)) kX0_init g487 g488 rfl hP hS (by first | decide | omega) hl.1 rfl (by simp [q_catrf, q_cati, q_catl, q_cata, q_catn]) (by first | decide | omega) dX0_leftLifted_114 (fun v hh5 H locs hq hP hS => ?_)
        obtain ⟨rfl, rfl⟩ := hq
        replace hP : qP D N0 (qs hv8 q101 (.inr (0, [va_rf r2, .long k, .long v0, va_rf y, .int (nI (max j2 j + 1)), .int (nI (B2.length + 1 + B.length))]))) H := hP
        obtain ⟨hv9, ehv9⟩ : ∃ z : qH, z = qs hv8 q101 (.inr (0, [va_rf r2, .long k, .long v0, va_rf y, .int (nI (max j2 j + 1)), .int (nI (B2.length + 1 + B.length))])) := ⟨_, rfl⟩
        rw [← ehv9] at hP
        have khv9 : ∀ b o, b ≠ q101 → hv8 b = some o → hv9 b = some o := by rw [ehv9]; exact fun b o nb hb => (qs_ne nb).trans hb
        have kp : qKp hv8 hv9 := fun b o hb nb => khv9 b o (fun q => by subst q; exact nb (Option.some.inj (hb.symm.trans fq101))) hb
        replace hB := hB.kp kp
        replace hA := hA.kp kp
        replace hl1 := hl1.kp kp
        replace hr1 := hr1.kp kp
        replace hl2 := hl2.kp kp
        replace hr2 := hr2.kp kp
        replace bq59 := bq59.kp kp
        clear kp
        replace f1 := khv9 _ _ n_q101_a1 f1
        replace f2 := khv9 _ _ n_q101_a2 f2
        replace fq59 := khv9 _ _ n_q101_q59 fq59
        replace fq85 := khv9 _ _ n_q101_q85 fq85
        replace hle : qle h hv9 := fun b o hb => khv9 b o (qne_of oq101 hb) (hle b o hb)
        replace fq101 : hv9 q101 = some (.inr (0, [va_rf r2, .long k, .long v0, va_rf y, .int (nI (max j2 j + 1)), .int (nI (B2.length + 1 + B.length))])) := by rw [ehv9]; exact qs_self
        clear ehv9
        have bq101 := qBr.mk fq101 hr2 hB ⟨by omega, by omega, by omega, by omega, by omega, by omega⟩
        refine q_callI (rest := [.ref q85]) C (c_X0_init l D cy N0 hv9 q85 (some q59) k2 v2 (some q101) (max i1 i2 + 1) (max j2 j + 1) (max (max i1 i2 + 1) (max j2 j + 1) + 1) (A1 ++ (k1, v1) :: A2) (B2 ++ (k, v0) :: B) fq85 bq59 bq101 (by omega) (by omega)) kX0_init g487 g488 rfl hP hS (by first | decide | omega) hl.1 rfl (by simp [q_catrf, q_cati, q_catl, q_cata, q_catn]) (by first | decide | omega) dX0_leftLifted_117 (fun v hh6 H locs hq hP hS => ?_)
        obtain ⟨rfl, rfl⟩ := hq
        replace hP : qP D N0 (qs hv9 q85 (.inr (0, [.ref q59, .long k2, .long v2, .ref q101, .int (nI (max (max i1 i2 + 1) (max j2 j + 1) + 1)), .int (nI ((A1 ++ (k1, v1) :: A2).length + 1 + (B2 ++ (k, v0) :: B).length))]))) H := hP
        obtain ⟨hv10, ehv10⟩ : ∃ z : qH, z = qs hv9 q85 (.inr (0, [.ref q59, .long k2, .long v2, .ref q101, .int (nI (max (max i1 i2 + 1) (max j2 j + 1) + 1)), .int (nI ((A1 ++ (k1, v1) :: A2).length + 1 + (B2 ++ (k, v0) :: B).length))])) := ⟨_, rfl⟩
        rw [← ehv10] at hP
        have khv10 : ∀ b o, b ≠ q85 → hv9 b = some o → hv10 b = some o := by rw [ehv10]; exact fun b o nb hb => (qs_ne nb).trans hb
        have kp : qKp hv9 hv10 := fun b o hb nb => khv10 b o (fun q => by subst q; exact nb (Option.some.inj (hb.symm.trans fq85))) hb
        replace hB := hB.kp kp
        replace hA := hA.kp kp
        replace hl1 := hl1.kp kp
        replace hr1 := hr1.kp kp
        replace hl2 := hl2.kp kp
        replace hr2 := hr2.kp kp
        replace bq59 := bq59.kp kp
        replace bq101 := bq101.kp kp
        clear kp
        replace f1 := khv10 _ _ n_q85_a1 f1
        replace f2 := khv10 _ _ n_q85_a2 f2
        replace fq59 := khv10 _ _ n_q85_q59 fq59
        replace fq101 := khv10 _ _ n_q101_q85.symm fq101
        replace hle : qle h hv10 := fun b o hb => khv10 b o (qne_of oq85 hb) (hle b o hb)
        replace fq85 : hv10 q85 = some (.inr (0, [.ref q59, .long k2, .long v2, .ref q101, .int (nI (max (max i1 i2 + 1) (max j2 j + 1) + 1)), .int (nI ((A1 ++ (k1, v1) :: A2).length + 1 + (B2 ++ (k, v0) :: B).length))])) := by rw [ehv10]; exact qs_self
        clear ehv10
        have bq85 := qBr.mk fq85 bq59 bq101 ⟨by omega, by omega, by omega, by omega, by omega, by omega⟩
        exact q_aret (v := (some q85)) C (Or.inl ⟨_, rfl⟩) hP hS ⟨(some q85), (max (max i1 i2 + 1) (max j2 j + 1) + 1), rfl, hle, by simpa using bq85, by omega, by omega⟩ (by omega) dX0_leftLifted_120
      · replace c23 : ¬ i1 < j1 := fun zq => c23 ((nI_ltI (a := i1) (b := j1) (by omega) (by omega)).mpr zq)
        refine q_new (ci := 0) (fs := [.null, .long 0, .long 0, .null, .int 0, .int 0]) C hP hS rfl inX0 tyX0 tyX0_ok g485 g486 g11 (fun j hj => by rcases (show j = 0 ∨ j = 1 ∨ j = 2 ∨ j = 3 ∨ j = 4 ∨ j = 5 by omega) with rfl | rfl | rfl | rfl | rfl | rfl <;> rfl) (by first | decide | omega) (by first | decide | omega) dX0_leftLifted_26 (fun q26 H eq26 hP hS => ?_)
        obtain ⟨hv11, ehv11⟩ : ∃ z : qH, z = qs h q26 (.inr (0, [.null, .long 0, .long 0, .null, .int 0, .int 0])) := ⟨_, rfl⟩
        rw [← ehv11] at hP
        have khv11 : ∀ b o, b ≠ q26 → h b = some o → hv11 b = some o := by rw [ehv11]; exact fun b o nb hb => (qs_ne nb).trans hb
        have kp : qKp h hv11 := fun b o hb _ => khv11 b o (qne_of eq26 hb) hb
        replace hB := hB.kp kp
        replace hA := hA.kp kp
        replace hl1 := hl1.kp kp
        replace hr1 := hr1.kp kp
        replace hl2 := hl2.kp kp
        replace hr2 := hr2.kp kp
        clear kp
        have n_q26_a1 : a1 ≠ q26 := qne_of eq26 f1
        replace f1 := khv11 _ _ n_q26_a1 f1
        have n_q26_a2 : a2 ≠ q26 := qne_of eq26 f2
        replace f2 := khv11 _ _ n_q26_a2 f2
        have oq26 := qle_none hle eq26
        replace hle : qle h hv11 := fun b o hb => khv11 b o (qne_of oq26 hb) (hle b o hb)
        have fq26 : hv11 q26 = some (.inr (0, [.null, .long 0, .long 0, .null, .int 0, .int 0])) := by rw [ehv11]; exact qs_self
        clear ehv11
        refine lv_dup hx hb dX0_leftLifted_29 rfl ?_
        refine lv_aload_n hx hb dX0_leftLifted_30 rfl (lv_at hl 1 rfl) ?_
        refine q_get C hP f1 rfl inX0 0 (by decide) g491 rfl dX0_leftLifted_31 ?_
        refine lv_aload_n hx hb dX0_leftLifted_34 rfl (lv_at hl 1 rfl) ?_
        refine q_get C hP f1 rfl inX0 1 (by decide) g492 rfl dX0_leftLifted_35 ?_
        refine lv_aload_n hx hb dX0_leftLifted_38 rfl (lv_at hl 1 rfl) ?_
        refine q_get C hP f1 rfl inX0 2 (by decide) g494 rfl dX0_leftLifted_39 ?_
        refine q_new (ci := 0) (fs := [.null, .long 0, .long 0, .null, .int 0, .int 0]) C hP hS rfl inX0 tyX0 tyX0_ok g485 g486 g11 (fun j hj => by rcases (show j = 0 ∨ j = 1 ∨ j = 2 ∨ j = 3 ∨ j = 4 ∨ j = 5 by omega) with rfl | rfl | rfl | rfl | rfl | rfl <;> rfl) (by first | decide | omega) (by first | decide | omega) dX0_leftLifted_42 (fun q42 H eq42 hP hS => ?_)
        obtain ⟨hv12, ehv12⟩ : ∃ z : qH, z = qs hv11 q42 (.inr (0, [.null, .long 0, .long 0, .null, .int 0, .int 0])) := ⟨_, rfl⟩
        rw [← ehv12] at hP
        have khv12 : ∀ b o, b ≠ q42 → hv11 b = some o → hv12 b = some o := by rw [ehv12]; exact fun b o nb hb => (qs_ne nb).trans hb
        have kp : qKp hv11 hv12 := fun b o hb _ => khv12 b o (qne_of eq42 hb) hb
        replace hB := hB.kp kp
        replace hA := hA.kp kp
        replace hl1 := hl1.kp kp
        replace hr1 := hr1.kp kp
        replace hl2 := hl2.kp kp
        replace hr2 := hr2.kp kp
        clear kp
        have n_q42_a1 : a1 ≠ q42 := qne_of eq42 f1
        replace f1 := khv12 _ _ n_q42_a1 f1
        have n_q42_a2 : a2 ≠ q42 := qne_of eq42 f2
        replace f2 := khv12 _ _ n_q42_a2 f2
        have n_q42_q26 : q26 ≠ q42 := qne_of eq42 fq26
        replace fq26 := khv12 _ _ n_q42_q26 fq26
        have oq42 := qle_none hle eq42
        replace hle : qle h hv12 := fun b o hb => khv12 b o (qne_of oq42 hb) (hle b o hb)
        have fq42 : hv12 q42 = some (.inr (0, [.null, .long 0, .long 0, .null, .int 0, .int 0])) := by rw [ehv12]; exact qs_self
        clear ehv12
        refine lv_dup hx hb dX0_leftLifted_45 rfl ?_
        refine lv_aload hx hb dX0_leftLifted_46 (lv_at hl 0 rfl) ?_
        refine lv_lload_n hx hb dX0_leftLifted_48 rfl (lv_at hl 2 rfl) ?_
        refine lv_lload_n hx hb dX0_leftLifted_49 rfl (lv_at hl 3 rfl) ?_
        refine q_aload hx hb dX0_leftLifted_50 (lv_at hl 4 rfl) ?_
        refine q_callI (rest := [.ref q42, .long v1, .long k1, va_rf l1, .ref q26, .ref q26]) C (c_X0_init l D cy N0 hv12 q42 (some a2) k v0 y j1 j (max j1 j + 1) (A2 ++ (k2, v2) :: B2) B fq42 hr1 hB (by omega) (by omega)) kX0_init g487 g488 rfl hP hS (by first | decide | omega) hl.1 rfl (by simp [q_catrf, q_cati, q_catl, q_cata, q_catn]) (by first | decide | omega) dX0_leftLifted_52 (fun v hh7 H locs hq hP hS => ?_)
        obtain ⟨rfl, rfl⟩ := hq
        replace hP : qP D N0 (qs hv12 q42 (.inr (0, [.ref a2, .long k, .long v0, va_rf y, .int (nI (max j1 j + 1)), .int (nI ((A2 ++ (k2, v2) :: B2).length + 1 + B.length))]))) H := hP
        obtain ⟨hv13, ehv13⟩ : ∃ z : qH, z = qs hv12 q42 (.inr (0, [.ref a2, .long k, .long v0, va_rf y, .int (nI (max j1 j + 1)), .int (nI ((A2 ++ (k2, v2) :: B2).length + 1 + B.length))])) := ⟨_, rfl⟩
        rw [← ehv13] at hP
        have khv13 : ∀ b o, b ≠ q42 → hv12 b = some o → hv13 b = some o := by rw [ehv13]; exact fun b o nb hb => (qs_ne nb).trans hb
        have kp : qKp hv12 hv13 := fun b o hb nb => khv13 b o (fun q => by subst q; exact nb (Option.some.inj (hb.symm.trans fq42))) hb
        replace hB := hB.kp kp
        replace hA := hA.kp kp
        replace hl1 := hl1.kp kp
        replace hr1 := hr1.kp kp
        replace hl2 := hl2.kp kp
        replace hr2 := hr2.kp kp
        clear kp
        replace f1 := khv13 _ _ n_q42_a1 f1
        replace f2 := khv13 _ _ n_q42_a2 f2
        replace fq26 := khv13 _ _ n_q42_q26 fq26
        replace hle : qle h hv13 := fun b o hb => khv13 b o (qne_of oq42 hb) (hle b o hb)
        replace fq42 : hv13 q42 = some (.inr (0, [.ref a2, .long k, .long v0, va_rf y, .int (nI (max j1 j + 1)), .int (nI ((A2 ++ (k2, v2) :: B2).length + 1 + B.length))])) := by rw [ehv13]; exact qs_self
        clear ehv13
        have bq42 := qBr.mk fq42 hr1 hB ⟨by omega, by omega, by omega, by omega, by omega, by omega⟩
        refine q_callI (rest := [.ref q26]) C (c_X0_init l D cy N0 hv13 q26 l1 k1 v1 (some q42) i1 (max j1 j + 1) (max i1 (max j1 j + 1) + 1) A1 ((A2 ++ (k2, v2) :: B2) ++ (k, v0) :: B) fq26 hl1 bq42 (by omega) (by omega)) kX0_init g487 g488 rfl hP hS (by first | decide | omega) hl.1 rfl (by simp [q_catrf, q_cati, q_catl, q_cata, q_catn]) (by first | decide | omega) dX0_leftLifted_55 (fun v hh8 H locs hq hP hS => ?_)
        obtain ⟨rfl, rfl⟩ := hq
        replace hP : qP D N0 (qs hv13 q26 (.inr (0, [va_rf l1, .long k1, .long v1, .ref q42, .int (nI (max i1 (max j1 j + 1) + 1)), .int (nI (A1.length + 1 + ((A2 ++ (k2, v2) :: B2) ++ (k, v0) :: B).length))]))) H := hP
        obtain ⟨hv14, ehv14⟩ : ∃ z : qH, z = qs hv13 q26 (.inr (0, [va_rf l1, .long k1, .long v1, .ref q42, .int (nI (max i1 (max j1 j + 1) + 1)), .int (nI (A1.length + 1 + ((A2 ++ (k2, v2) :: B2) ++ (k, v0) :: B).length))])) := ⟨_, rfl⟩
        rw [← ehv14] at hP
        have khv14 : ∀ b o, b ≠ q26 → hv13 b = some o → hv14 b = some o := by rw [ehv14]; exact fun b o nb hb => (qs_ne nb).trans hb
        have kp : qKp hv13 hv14 := fun b o hb nb => khv14 b o (fun q => by subst q; exact nb (Option.some.inj (hb.symm.trans fq26))) hb
        replace hB := hB.kp kp
        replace hA := hA.kp kp
        replace hl1 := hl1.kp kp
        replace hr1 := hr1.kp kp
        replace hl2 := hl2.kp kp
        replace hr2 := hr2.kp kp
        replace bq42 := bq42.kp kp
        clear kp
        replace f1 := khv14 _ _ n_q26_a1 f1
        replace f2 := khv14 _ _ n_q26_a2 f2
        replace fq42 := khv14 _ _ n_q42_q26.symm fq42
        replace hle : qle h hv14 := fun b o hb => khv14 b o (qne_of oq26 hb) (hle b o hb)
        replace fq26 : hv14 q26 = some (.inr (0, [va_rf l1, .long k1, .long v1, .ref q42, .int (nI (max i1 (max j1 j + 1) + 1)), .int (nI (A1.length + 1 + ((A2 ++ (k2, v2) :: B2) ++ (k, v0) :: B).length))])) := by rw [ehv14]; exact qs_self
        clear ehv14
        have bq26 := qBr.mk fq26 hl1 bq42 ⟨by omega, by omega, by omega, by omega, by omega, by omega⟩
        exact q_aret (v := (some q26)) C (Or.inl ⟨_, rfl⟩) hP hS ⟨(some q26), (max i1 (max j1 j + 1) + 1), rfl, hle, by simpa using bq26, by omega, by omega⟩ (by omega) dX0_leftLifted_58

theorem dX0_rightLifted_0 : decode cX0_rightLifted 0 = .ok (.aload 5, 2) := by decide +kernel
theorem dX0_rightLifted_2 : decode cX0_rightLifted 2 = .ok (.getfield 7, 3) := by decide +kernel
theorem dX0_rightLifted_5 : decode cX0_rightLifted 5 = .ok (.astore 6, 2) := by decide +kernel
theorem dX0_rightLifted_7 : decode cX0_rightLifted 7 = .ok (.aload 6, 2) := by decide +kernel
theorem dX0_rightLifted_9 : decode cX0_rightLifted 9 = .ok (.ifnull 19, 3) := by decide +kernel
theorem dX0_rightLifted_12 : decode cX0_rightLifted 12 = .ok (.aload 6, 2) := by decide +kernel
theorem dX0_rightLifted_14 : decode cX0_rightLifted 14 = .ok (.getfield 23, 3) := by decide +kernel
theorem dX0_rightLifted_17 : decode cX0_rightLifted 17 = .ok (.aload 5, 2) := by decide +kernel
theorem dX0_rightLifted_19 : decode cX0_rightLifted 19 = .ok (.getfield 20, 3) := by decide +kernel
theorem dX0_rightLifted_22 : decode cX0_rightLifted 22 = .ok (.invokestatic 30, 3) := by decide +kernel
theorem dX0_rightLifted_25 : decode cX0_rightLifted 25 = .ok (.if_icmp .gt 38, 3) := by decide +kernel
theorem dX0_rightLifted_28 : decode cX0_rightLifted 28 = .ok (.new 8, 3) := by decide +kernel
theorem dX0_rightLifted_31 : decode cX0_rightLifted 31 = .ok (.dup, 1) := by decide +kernel
theorem dX0_rightLifted_32 : decode cX0_rightLifted 32 = .ok (.new 8, 3) := by decide +kernel
theorem dX0_rightLifted_35 : decode cX0_rightLifted 35 = .ok (.dup, 1) := by decide +kernel
theorem dX0_rightLifted_36 : decode cX0_rightLifted 36 = .ok (.aload_n 0, 1) := by decide +kernel
theorem dX0_rightLifted_37 : decode cX0_rightLifted 37 = .ok (.lload_n 1, 1) := by decide +kernel
theorem dX0_rightLifted_38 : decode cX0_rightLifted 38 = .ok (.lload_n 3, 1) := by decide +kernel
theorem dX0_rightLifted_39 : decode cX0_rightLifted 39 = .ok (.aload 6, 2) := by decide +kernel
theorem dX0_rightLifted_41 : decode cX0_rightLifted 41 = .ok (.invokespecial 41, 3) := by decide +kernel
theorem dX0_rightLifted_44 : decode cX0_rightLifted 44 = .ok (.aload 5, 2) := by decide +kernel
theorem dX0_rightLifted_46 : decode cX0_rightLifted 46 = .ok (.getfield 13, 3) := by decide +kernel
theorem dX0_rightLifted_49 : decode cX0_rightLifted 49 = .ok (.aload 5, 2) := by decide +kernel
theorem dX0_rightLifted_51 : decode cX0_rightLifted 51 = .ok (.getfield 17, 3) := by decide +kernel
theorem dX0_rightLifted_54 : decode cX0_rightLifted 54 = .ok (.aload 5, 2) := by decide +kernel
theorem dX0_rightLifted_56 : decode cX0_rightLifted 56 = .ok (.getfield 20, 3) := by decide +kernel
theorem dX0_rightLifted_59 : decode cX0_rightLifted 59 = .ok (.invokespecial 41, 3) := by decide +kernel
theorem dX0_rightLifted_62 : decode cX0_rightLifted 62 = .ok (.areturn, 1) := by decide +kernel
theorem dX0_rightLifted_63 : decode cX0_rightLifted 63 = .ok (.new 8, 3) := by decide +kernel
theorem dX0_rightLifted_66 : decode cX0_rightLifted 66 = .ok (.dup, 1) := by decide +kernel
theorem dX0_rightLifted_67 : decode cX0_rightLifted 67 = .ok (.aload 6, 2) := by decide +kernel
theorem dX0_rightLifted_69 : decode cX0_rightLifted 69 = .ok (.getfield 20, 3) := by decide +kernel
theorem dX0_rightLifted_72 : decode cX0_rightLifted 72 = .ok (.aload 5, 2) := by decide +kernel
theorem dX0_rightLifted_74 : decode cX0_rightLifted 74 = .ok (.getfield 13, 3) := by decide +kernel
theorem dX0_rightLifted_77 : decode cX0_rightLifted 77 = .ok (.aload 5, 2) := by decide +kernel
theorem dX0_rightLifted_79 : decode cX0_rightLifted 79 = .ok (.getfield 17, 3) := by decide +kernel
theorem dX0_rightLifted_82 : decode cX0_rightLifted 82 = .ok (.aload 5, 2) := by decide +kernel
theorem dX0_rightLifted_84 : decode cX0_rightLifted 84 = .ok (.getfield 20, 3) := by decide +kernel
theorem dX0_rightLifted_87 : decode cX0_rightLifted 87 = .ok (.invokespecial 41, 3) := by decide +kernel
theorem dX0_rightLifted_90 : decode cX0_rightLifted 90 = .ok (.astore 7, 2) := by decide +kernel
theorem dX0_rightLifted_92 : decode cX0_rightLifted 92 = .ok (.new 8, 3) := by decide +kernel
theorem dX0_rightLifted_95 : decode cX0_rightLifted 95 = .ok (.dup, 1) := by decide +kernel
theorem dX0_rightLifted_96 : decode cX0_rightLifted 96 = .ok (.new 8, 3) := by decide +kernel
theorem dX0_rightLifted_99 : decode cX0_rightLifted 99 = .ok (.dup, 1) := by decide +kernel
theorem dX0_rightLifted_100 : decode cX0_rightLifted 100 = .ok (.aload_n 0, 1) := by decide +kernel
theorem dX0_rightLifted_101 : decode cX0_rightLifted 101 = .ok (.lload_n 1, 1) := by decide +kernel
theorem dX0_rightLifted_102 : decode cX0_rightLifted 102 = .ok (.lload_n 3, 1) := by decide +kernel
theorem dX0_rightLifted_103 : decode cX0_rightLifted 103 = .ok (.aload 6, 2) := by decide +kernel
theorem dX0_rightLifted_105 : decode cX0_rightLifted 105 = .ok (.getfield 7, 3) := by decide +kernel
theorem dX0_rightLifted_108 : decode cX0_rightLifted 108 = .ok (.invokespecial 41, 3) := by decide +kernel
theorem dX0_rightLifted_111 : decode cX0_rightLifted 111 = .ok (.aload 6, 2) := by decide +kernel
theorem dX0_rightLifted_113 : decode cX0_rightLifted 113 = .ok (.getfield 13, 3) := by decide +kernel
theorem dX0_rightLifted_116 : decode cX0_rightLifted 116 = .ok (.aload 6, 2) := by decide +kernel
theorem dX0_rightLifted_118 : decode cX0_rightLifted 118 = .ok (.getfield 17, 3) := by decide +kernel
theorem dX0_rightLifted_121 : decode cX0_rightLifted 121 = .ok (.aload 7, 2) := by decide +kernel
theorem dX0_rightLifted_123 : decode cX0_rightLifted 123 = .ok (.invokespecial 41, 3) := by decide +kernel
theorem dX0_rightLifted_126 : decode cX0_rightLifted 126 = .ok (.areturn, 1) := by decide +kernel
set_option maxRecDepth 100000 in
set_option maxHeartbeats 4000000 in
theorem c_X0_rightLifted (l : Launch) (D : va_G) (cy : Nat → ClassId) (N0 : Nat) (h : qH) (x : Option Nat) (k v0 : Int64) (y : Option Nat) (i j : Nat) (A B : qKV) (hA : qBr h i x A) (hB : qBr h j y B) (hL : A.length + B.length < 1000000) (hij : j = i + 2) : qC l D cy N0 yX0_rightLifted cX0_rightLifted 8 (some (.object RX0)) 2 40 3 18 [va_rf x, .long k, .long v0, va_rf y] h (fun v h' => ∃ (r9 : Option Nat) (n9 : Nat), v = some (va_rf r9) ∧ qle h h' ∧ qBr h' n9 r9 (A ++ (k, v0) :: B) ∧ j ≤ n9 ∧ n9 ≤ j + 1) (fun E h' => False) := by
  refine q_ofW (by decide) (by simp [lg_sl, q_catrf, q_cati, q_catl, q_cata, q_catn]) ?_
  intro p e s m below meth c ls C hP hl
  have hx := C.1
  have hb := C.2.1
  have hS : va_S (qA N0) s.heap s.heap [] := va_S.rf
  have hl : lv_has ls 8 [(0, va_rf x), (1, .long k), (3, .long v0), (5, va_rf y)] := by simpa [lv_args, q_catrf, q_cati, q_catl, q_cata, q_catn] using hl
  have hle : qle h h := qle_rf
  have zA := hA.len
  have zB := hB.len
  rcases hB.inv with ⟨rfl, rfl, rfl⟩ | ⟨a1, l1, k1, v1, r1, i1, j1, A1, B1, rfl, f1, hl1, hr1, rfl, hg11, hg12, hg13, hg14, hg15, hg16⟩
  · exfalso; omega
  · have zl1 := hl1.len
    have zr1 := hr1.len
    have eL1 : (A1 ++ (k1, v1) :: B1).length = A1.length + (B1.length + 1) := by rw [List.length_append, List.length_cons]
    simp only [List.length_append, List.length_cons, List.length_nil] at hL zA zB
    rcases hl1.inv with ⟨rfl, rfl, rfl⟩ | ⟨a2, l2, k2, v2, r2, i2, j2, A2, B2, rfl, f2, hl2, hr2, rfl, hg21, hg22, hg23, hg24, hg25, hg26⟩
    · refine lv_aload hx hb dX0_rightLifted_0 (lv_at hl 3 rfl) ?_
      refine q_get C hP f1 rfl inX0 0 (by decide) g491 rfl dX0_rightLifted_2 ?_
      refine lv_astoreN (lv' := [(6, .null), (0, va_rf x), (1, .long k), (3, .long v0), (5, .ref a1)]) hx hb dX0_rightLifted_5 hl (by decide) rfl (fun ls hl => ?_)
      refine lv_aloadN hx hb dX0_rightLifted_7 (lv_at hl 0 rfl) ?_
      refine lv_ifnullN (tgt := 28) hx hb dX0_rightLifted_9 (by decide) ?_
      refine q_new (ci := 0) (fs := [.null, .long 0, .long 0, .null, .int 0, .int 0]) C hP hS rfl inX0 tyX0 tyX0_ok g485 g486 g11 (fun j hj => by rcases (show j = 0 ∨ j = 1 ∨ j = 2 ∨ j = 3 ∨ j = 4 ∨ j = 5 by omega) with rfl | rfl | rfl | rfl | rfl | rfl <;> rfl) (by first | decide | omega) (by first | decide | omega) dX0_rightLifted_28 (fun q28 H eq28 hP hS => ?_)
      obtain ⟨hv1, ehv1⟩ : ∃ z : qH, z = qs h q28 (.inr (0, [.null, .long 0, .long 0, .null, .int 0, .int 0])) := ⟨_, rfl⟩
      rw [← ehv1] at hP
      have khv1 : ∀ b o, b ≠ q28 → h b = some o → hv1 b = some o := by rw [ehv1]; exact fun b o nb hb => (qs_ne nb).trans hb
      have kp : qKp h hv1 := fun b o hb _ => khv1 b o (qne_of eq28 hb) hb
      replace hA := hA.kp kp
      replace hB := hB.kp kp
      replace hr1 := hr1.kp kp
      clear kp
      have n_q28_a1 : a1 ≠ q28 := qne_of eq28 f1
      replace f1 := khv1 _ _ n_q28_a1 f1
      have oq28 := qle_none hle eq28
      replace hle : qle h hv1 := fun b o hb => khv1 b o (qne_of oq28 hb) (hle b o hb)
      have fq28 : hv1 q28 = some (.inr (0, [.null, .long 0, .long 0, .null, .int 0, .int 0])) := by rw [ehv1]; exact qs_self
      clear ehv1
      refine lv_dup hx hb dX0_rightLifted_31 rfl ?_
      refine q_new (ci := 0) (fs := [.null, .long 0, .long 0, .null, .int 0, .int 0]) C hP hS rfl inX0 tyX0 tyX0_ok g485 g486 g11 (fun j hj => by rcases (show j = 0 ∨ j = 1 ∨ j = 2 ∨ j = 3 ∨ j = 4 ∨ j = 5 by omega) with rfl | rfl | rfl | rfl | rfl | rfl <;> rfl) (by first | decide | omega) (by first | decide | omega) dX0_rightLifted_32 (fun q32 H eq32 hP hS => ?_)
      obtain ⟨hv2, ehv2⟩ : ∃ z : qH, z = qs hv1 q32 (.inr (0, [.null, .long 0, .long 0, .null, .int 0, .int 0])) := ⟨_, rfl⟩
      rw [← ehv2] at hP
      have khv2 : ∀ b o, b ≠ q32 → hv1 b = some o → hv2 b = some o := by rw [ehv2]; exact fun b o nb hb => (qs_ne nb).trans hb
      have kp : qKp hv1 hv2 := fun b o hb _ => khv2 b o (qne_of eq32 hb) hb
      replace hA := hA.kp kp
      replace hB := hB.kp kp
      replace hr1 := hr1.kp kp
      clear kp
      have n_q32_a1 : a1 ≠ q32 := qne_of eq32 f1
      replace f1 := khv2 _ _ n_q32_a1 f1
      have n_q32_q28 : q28 ≠ q32 := qne_of eq32 fq28
      replace fq28 := khv2 _ _ n_q32_q28 fq28
      have oq32 := qle_none hle eq32
      replace hle : qle h hv2 := fun b o hb => khv2 b o (qne_of oq32 hb) (hle b o hb)
      have fq32 : hv2 q32 = some (.inr (0, [.null, .long 0, .long 0, .null, .int 0, .int 0])) := by rw [ehv2]; exact qs_self
      clear ehv2
      refine lv_dup hx hb dX0_rightLifted_35 rfl ?_
      refine q_aload_n hx hb dX0_rightLifted_36 rfl (lv_at hl 1 rfl) ?_
      refine lv_lload_n hx hb dX0_rightLifted_37 rfl (lv_at hl 2 rfl) ?_
      refine lv_lload_n hx hb dX0_rightLifted_38 rfl (lv_at hl 3 rfl) ?_
      refine lv_aloadN hx hb dX0_rightLifted_39 (lv_at hl 0 rfl) ?_
      refine q_callI (rest := [.ref q32, .ref q28, .ref q28]) C (c_X0_init l D cy N0 hv2 q32 x k v0 none i 0 (max i 0 + 1) A ([] : qKV) fq32 hA qBr.nil (by omega) (by omega)) kX0_init g487 g488 rfl hP hS (by first | decide | omega) hl.1 rfl (by simp [q_catrf, q_cati, q_catl, q_cata, q_catn]) (by first | decide | omega) dX0_rightLifted_41 (fun v hh1 H locs hq hP hS => ?_)
      obtain ⟨rfl, rfl⟩ := hq
      replace hP : qP D N0 (qs hv2 q32 (.inr (0, [va_rf x, .long k, .long v0, .null, .int (nI (max i 0 + 1)), .int (nI (A.length + 1 + ([] : qKV).length))]))) H := hP
      obtain ⟨hv3, ehv3⟩ : ∃ z : qH, z = qs hv2 q32 (.inr (0, [va_rf x, .long k, .long v0, .null, .int (nI (max i 0 + 1)), .int (nI (A.length + 1 + ([] : qKV).length))])) := ⟨_, rfl⟩
      rw [← ehv3] at hP
      have khv3 : ∀ b o, b ≠ q32 → hv2 b = some o → hv3 b = some o := by rw [ehv3]; exact fun b o nb hb => (qs_ne nb).trans hb
      have kp : qKp hv2 hv3 := fun b o hb nb => khv3 b o (fun q => by subst q; exact nb (Option.some.inj (hb.symm.trans fq32))) hb
      replace hA := hA.kp kp
      replace hB := hB.kp kp
      replace hr1 := hr1.kp kp
      clear kp
      replace f1 := khv3 _ _ n_q32_a1 f1
      replace fq28 := khv3 _ _ n_q32_q28 fq28
      replace hle : qle h hv3 := fun b o hb => khv3 b o (qne_of oq32 hb) (hle b o hb)
      replace fq32 : hv3 q32 = some (.inr (0, [va_rf x, .long k, .long v0, .null, .int (nI (max i 0 + 1)), .int (nI (A.length + 1 + ([] : qKV).length))])) := by rw [ehv3]; exact qs_self
      clear ehv3
      have bq32 := qBr.mk fq32 hA qBr.nil ⟨by omega, by omega, by omega, by omega, by omega, by omega⟩
      refine lv_aload hx hb dX0_rightLifted_44 (lv_at hl 4 rfl) ?_
      refine q_get C hP f1 rfl inX0 1 (by decide) g492 rfl dX0_rightLifted_46 ?_
      refine lv_aload hx hb dX0_rightLifted_49 (lv_at hl 4 rfl) ?_
      refine q_get C hP f1 rfl inX0 2 (by decide) g494 rfl dX0_rightLifted_51 ?_
      refine lv_aload hx hb dX0_rightLifted_54 (lv_at hl 4 rfl) ?_
      refine q_get C hP f1 rfl inX0 3 (by decide) g497 rfl dX0_rightLifted_56 ?_
      refine q_callI (rest := [.ref q28]) C (c_X0_init l D cy N0 hv3 q28 (some q32) k1 v1 r1 (max i 0 + 1) j1 (max (max i 0 + 1) j1 + 1) (A ++ (k, v0) :: ([] : qKV)) B1 fq28 bq32 hr1 (by omega) (by omega)) kX0_init g487 g488 rfl hP hS (by first | decide | omega) hl.1 rfl (by simp [q_catrf, q_cati, q_catl, q_cata, q_catn]) (by first | decide | omega) dX0_rightLifted_59 (fun v hh2 H locs hq hP hS => ?_)
      obtain ⟨rfl, rfl⟩ := hq
      replace hP : qP D N0 (qs hv3 q28 (.inr (0, [.ref q32, .long k1, .long v1, va_rf r1, .int (nI (max (max i 0 + 1) j1 + 1)), .int (nI ((A ++ (k, v0) :: ([] : qKV)).length + 1 + B1.length))]))) H := hP
      obtain ⟨hv4, ehv4⟩ : ∃ z : qH, z = qs hv3 q28 (.inr (0, [.ref q32, .long k1, .long v1, va_rf r1, .int (nI (max (max i 0 + 1) j1 + 1)), .int (nI ((A ++ (k, v0) :: ([] : qKV)).length + 1 + B1.length))])) := ⟨_, rfl⟩
      rw [← ehv4] at hP
      have khv4 : ∀ b o, b ≠ q28 → hv3 b = some o → hv4 b = some o := by rw [ehv4]; exact fun b o nb hb => (qs_ne nb).trans hb
      have kp : qKp hv3 hv4 := fun b o hb nb => khv4 b o (fun q => by subst q; exact nb (Option.some.inj (hb.symm.trans fq28))) hb
      replace hA := hA.kp kp
      replace hB := hB.kp kp
      replace hr1 := hr1.kp kp
      replace bq32 := bq32.kp kp
      clear kp
      replace f1 := khv4 _ _ n_q28_a1 f1
      replace fq32 := khv4 _ _ n_q32_q28.symm fq32
      replace hle : qle h hv4 := fun b o hb => khv4 b o (qne_of oq28 hb) (hle b o hb)
      replace fq28 : hv4 q28 = some (.inr (0, [.ref q32, .long k1, .long v1, va_rf r1, .int (nI (max (max i 0 + 1) j1 + 1)), .int (nI ((A ++ (k, v0) :: ([] : qKV)).length + 1 + B1.length))])) := by rw [ehv4]; exact qs_self
      clear ehv4
      have bq28 := qBr.mk fq28 bq32 hr1 ⟨by omega, by omega, by omega, by omega, by omega, by omega⟩
      exact q_aret (v := (some q28)) C (Or.inl ⟨_, rfl⟩) hP hS ⟨(some q28), (max (max i 0 + 1) j1 + 1), rfl, hle, by simpa using bq28, by omega, by omega⟩ (by omega) dX0_rightLifted_62
    · have zl2 := hl2.len
      have zr2 := hr2.len
      have eL2 : (A2 ++ (k2, v2) :: B2).length = A2.length + (B2.length + 1) := by rw [List.length_append, List.length_cons]
      simp only [List.length_append, List.length_cons, List.length_nil] at hL zA zB zl1
      refine lv_aload hx hb dX0_rightLifted_0 (lv_at hl 3 rfl) ?_
      refine q_get C hP f1 rfl inX0 0 (by decide) g491 rfl dX0_rightLifted_2 ?_
      refine lv_astore (lv' := [(6, .ref a2), (0, va_rf x), (1, .long k), (3, .long v0), (5, .ref a1)]) hx hb dX0_rightLifted_5 hl (by decide) rfl (fun ls hl => ?_)
      refine lv_aload hx hb dX0_rightLifted_7 (lv_at hl 0 rfl) ?_
      refine lv_ifnull hx hb dX0_rightLifted_9 ?_
      refine lv_aload hx hb dX0_rightLifted_12 (lv_at hl 0 rfl) ?_
      refine q_get C hP f2 rfl inX0 4 (by decide) g498 rfl dX0_rightLifted_14 ?_
      refine lv_aload hx hb dX0_rightLifted_17 (lv_at hl 4 rfl) ?_
      refine q_get C hP f1 rfl inX0 3 (by decide) g497 rfl dX0_rightLifted_19 ?_
      refine q_callS (rest := [.int (nI i1)]) C (c_X0_heightOf l D cy N0 h r1 (nI j1) hr1.fiH) kX0_heightOf g475 g476 hP hS (by first | decide | omega) hl.1 rfl (by simp [q_catrf, q_cati, q_catl, q_cata, q_catn]) (by first | decide | omega) dX0_rightLifted_22 (fun q ce E h' H1 locs1 hE => hE.elim) (fun v hh3 H locs hq hP hS => ?_)
      obtain ⟨rfl, rfl⟩ := hq
      refine lv_icmp_gt (tgt := 63) hx hb dX0_rightLifted_25 (by decide) (fun c25 => ?_) (fun c25 => ?_)
      · replace c25 : j1 < i1 := (nI_ltI (a := j1) (b := i1) (by omega) (by omega)).mp c25
        refine q_new (ci := 0) (fs := [.null, .long 0, .long 0, .null, .int 0, .int 0]) C hP hS rfl inX0 tyX0 tyX0_ok g485 g486 g11 (fun j hj => by rcases (show j = 0 ∨ j = 1 ∨ j = 2 ∨ j = 3 ∨ j = 4 ∨ j = 5 by omega) with rfl | rfl | rfl | rfl | rfl | rfl <;> rfl) (by first | decide | omega) (by first | decide | omega) dX0_rightLifted_63 (fun q63 H eq63 hP hS => ?_)
        obtain ⟨hv5, ehv5⟩ : ∃ z : qH, z = qs h q63 (.inr (0, [.null, .long 0, .long 0, .null, .int 0, .int 0])) := ⟨_, rfl⟩
        rw [← ehv5] at hP
        have khv5 : ∀ b o, b ≠ q63 → h b = some o → hv5 b = some o := by rw [ehv5]; exact fun b o nb hb => (qs_ne nb).trans hb
        have kp : qKp h hv5 := fun b o hb _ => khv5 b o (qne_of eq63 hb) hb
        replace hA := hA.kp kp
        replace hB := hB.kp kp
        replace hr1 := hr1.kp kp
        replace hl1 := hl1.kp kp
        replace hl2 := hl2.kp kp
        replace hr2 := hr2.kp kp
        clear kp
        have n_q63_a1 : a1 ≠ q63 := qne_of eq63 f1
        replace f1 := khv5 _ _ n_q63_a1 f1
        have n_q63_a2 : a2 ≠ q63 := qne_of eq63 f2
        replace f2 := khv5 _ _ n_q63_a2 f2
        have oq63 := qle_none hle eq63
        replace hle : qle h hv5 := fun b o hb => khv5 b o (qne_of oq63 hb) (hle b o hb)
        have fq63 : hv5 q63 = some (.inr (0, [.null, .long 0, .long 0, .null, .int 0, .int 0])) := by rw [ehv5]; exact qs_self
        clear ehv5
        refine lv_dup hx hb dX0_rightLifted_66 rfl ?_
        refine lv_aload hx hb dX0_rightLifted_67 (lv_at hl 0 rfl) ?_
        refine q_get C hP f2 rfl inX0 3 (by decide) g497 rfl dX0_rightLifted_69 ?_
        refine lv_aload hx hb dX0_rightLifted_72 (lv_at hl 4 rfl) ?_
        refine q_get C hP f1 rfl inX0 1 (by decide) g492 rfl dX0_rightLifted_74 ?_
        refine lv_aload hx hb dX0_rightLifted_77 (lv_at hl 4 rfl) ?_
        refine q_get C hP f1 rfl inX0 2 (by decide) g494 rfl dX0_rightLifted_79 ?_
        refine lv_aload hx hb dX0_rightLifted_82 (lv_at hl 4 rfl) ?_
        refine q_get C hP f1 rfl inX0 3 (by decide) g497 rfl dX0_rightLifted_84 ?_
        refine q_callI (rest := [.ref q63]) C (c_X0_init l D cy N0 hv5 q63 r2 k1 v1 r1 j2 j1 (max j2 j1 + 1) B2 B1 fq63 hr2 hr1 (by omega) (by omega)) kX0_init g487 g488 rfl hP hS (by first | decide | omega) hl.1 rfl (by simp [q_catrf, q_cati, q_catl, q_cata, q_catn]) (by first | decide | omega) dX0_rightLifted_87 (fun v hh4 H locs hq hP hS => ?_)
        obtain ⟨rfl, rfl⟩ := hq
        replace hP : qP D N0 (qs hv5 q63 (.inr (0, [va_rf r2, .long k1, .long v1, va_rf r1, .int (nI (max j2 j1 + 1)), .int (nI (B2.length + 1 + B1.length))]))) H := hP
        obtain ⟨hv6, ehv6⟩ : ∃ z : qH, z = qs hv5 q63 (.inr (0, [va_rf r2, .long k1, .long v1, va_rf r1, .int (nI (max j2 j1 + 1)), .int (nI (B2.length + 1 + B1.length))])) := ⟨_, rfl⟩
        rw [← ehv6] at hP
        have khv6 : ∀ b o, b ≠ q63 → hv5 b = some o → hv6 b = some o := by rw [ehv6]; exact fun b o nb hb => (qs_ne nb).trans hb
        have kp : qKp hv5 hv6 := fun b o hb nb => khv6 b o (fun q => by subst q; exact nb (Option.some.inj (hb.symm.trans fq63))) hb
        replace hA := hA.kp kp
        replace hB := hB.kp kp
        replace hr1 := hr1.kp kp
        replace hl1 := hl1.kp kp
        replace hl2 := hl2.kp kp
        replace hr2 := hr2.kp kp
        clear kp
        replace f1 := khv6 _ _ n_q63_a1 f1
        replace f2 := khv6 _ _ n_q63_a2 f2
        replace hle : qle h hv6 := fun b o hb => khv6 b o (qne_of oq63 hb) (hle b o hb)
        replace fq63 : hv6 q63 = some (.inr (0, [va_rf r2, .long k1, .long v1, va_rf r1, .int (nI (max j2 j1 + 1)), .int (nI (B2.length + 1 + B1.length))])) := by rw [ehv6]; exact qs_self
        clear ehv6
        have bq63 := qBr.mk fq63 hr2 hr1 ⟨by omega, by omega, by omega, by omega, by omega, by omega⟩
        refine lv_astore (lv' := [(7, .ref q63), (6, .ref a2), (0, va_rf x), (1, .long k), (3, .long v0), (5, .ref a1)]) hx hb dX0_rightLifted_90 hl (by decide) rfl (fun ls hl => ?_)
        refine q_new (ci := 0) (fs := [.null, .long 0, .long 0, .null, .int 0, .int 0]) C hP hS rfl inX0 tyX0 tyX0_ok g485 g486 g11 (fun j hj => by rcases (show j = 0 ∨ j = 1 ∨ j = 2 ∨ j = 3 ∨ j = 4 ∨ j = 5 by omega) with rfl | rfl | rfl | rfl | rfl | rfl <;> rfl) (by first | decide | omega) (by first | decide | omega) dX0_rightLifted_92 (fun q92 H eq92 hP hS => ?_)
        obtain ⟨hv7, ehv7⟩ : ∃ z : qH, z = qs hv6 q92 (.inr (0, [.null, .long 0, .long 0, .null, .int 0, .int 0])) := ⟨_, rfl⟩
        rw [← ehv7] at hP
        have khv7 : ∀ b o, b ≠ q92 → hv6 b = some o → hv7 b = some o := by rw [ehv7]; exact fun b o nb hb => (qs_ne nb).trans hb
        have kp : qKp hv6 hv7 := fun b o hb _ => khv7 b o (qne_of eq92 hb) hb
        replace hA := hA.kp kp
        replace hB := hB.kp kp
        replace hr1 := hr1.kp kp
        replace hl1 := hl1.kp kp
        replace hl2 := hl2.kp kp
        replace hr2 := hr2.kp kp
        replace bq63 := bq63.kp kp
        clear kp
        have n_q92_a1 : a1 ≠ q92 := qne_of eq92 f1
        replace f1 := khv7 _ _ n_q92_a1 f1
        have n_q92_a2 : a2 ≠ q92 := qne_of eq92 f2
        replace f2 := khv7 _ _ n_q92_a2 f2
        have n_q92_q63 : q63 ≠ q92 := qne_of eq92 fq63
        replace fq63 := khv7 _ _ n_q92_q63 fq63
        have oq92 := qle_none hle eq92
        replace hle : qle h hv7 := fun b o hb => khv7 b o (qne_of oq92 hb) (hle b o hb)
        have fq92 : hv7 q92 = some (.inr (0, [.null, .long 0, .long 0, .null, .int 0, .int 0])) := by rw [ehv7]; exact qs_self
        clear ehv7
        refine lv_dup hx hb dX0_rightLifted_95 rfl ?_
        refine q_new (ci := 0) (fs := [.null, .long 0, .long 0, .null, .int 0, .int 0]) C hP hS rfl inX0 tyX0 tyX0_ok g485 g486 g11 (fun j hj => by rcases (show j = 0 ∨ j = 1 ∨ j = 2 ∨ j = 3 ∨ j = 4 ∨ j = 5 by omega) with rfl | rfl | rfl | rfl | rfl | rfl <;> rfl) (by first | decide | omega) (by first | decide | omega) dX0_rightLifted_96 (fun q96 H eq96 hP hS => ?_)
        obtain ⟨hv8, ehv8⟩ : ∃ z : qH, z = qs hv7 q96 (.inr (0, [.null, .long 0, .long 0, .null, .int 0, .int 0])) := ⟨_, rfl⟩
        rw [← ehv8] at hP
        have khv8 : ∀ b o, b ≠ q96 → hv7 b = some o → hv8 b = some o := by rw [ehv8]; exact fun b o nb hb => (qs_ne nb).trans hb
        have kp : qKp hv7 hv8 := fun b o hb _ => khv8 b o (qne_of eq96 hb) hb
        replace hA := hA.kp kp
        replace hB := hB.kp kp
        replace hr1 := hr1.kp kp
        replace hl1 := hl1.kp kp
        replace hl2 := hl2.kp kp
        replace hr2 := hr2.kp kp
        replace bq63 := bq63.kp kp
        clear kp
        have n_q96_a1 : a1 ≠ q96 := qne_of eq96 f1
        replace f1 := khv8 _ _ n_q96_a1 f1
        have n_q96_a2 : a2 ≠ q96 := qne_of eq96 f2
        replace f2 := khv8 _ _ n_q96_a2 f2
        have n_q96_q63 : q63 ≠ q96 := qne_of eq96 fq63
        replace fq63 := khv8 _ _ n_q96_q63 fq63
        have n_q96_q92 : q92 ≠ q96 := qne_of eq96 fq92
        replace fq92 := khv8 _ _ n_q96_q92 fq92
        have oq96 := qle_none hle eq96
        replace hle : qle h hv8 := fun b o hb => khv8 b o (qne_of oq96 hb) (hle b o hb)
        have fq96 : hv8 q96 = some (.inr (0, [.null, .long 0, .long 0, .null, .int 0, .int 0])) := by rw [ehv8]; exact qs_self
        clear ehv8
        refine lv_dup hx hb dX0_rightLifted_99 rfl ?_
        refine q_aload_n hx hb dX0_rightLifted_100 rfl (lv_at hl 2 rfl) ?_
        refine lv_lload_n hx hb dX0_rightLifted_101 rfl (lv_at hl 3 rfl) ?_
        refine lv_lload_n hx hb dX0_rightLifted_102 rfl (lv_at hl 4 rfl) ?_
        refine lv_aload hx hb dX0_rightLifted_103 (lv_at hl 1 rfl) ?_
        refine q_get C hP f2 rfl inX0 0 (by decide) g491 rfl dX0_rightLifted_105 ?_
        refine q_callI (rest := [.ref q96, .ref q92, .ref q92]) C (c_X0_init l D cy N0 hv8 q96 x k v0 l2 i i2 (max i i2 + 1) A A2 fq96 hA hl2 (by omega) (by omega)) kX0_init g487 g488 rfl hP hS (by first | decide | omega) hl.1 rfl (by simp [q_catrf, q_cati, q_catl, q_cata, q_catn]) (by first | decide | omega) dX0_rightLifted_108 (fun v hh5 H locs hq hP hS => ?_)
        obtain ⟨rfl, rfl⟩ := hq
        replace hP : qP D N0 (qs hv8 q96 (.inr (0, [va_rf x, .long k, .long v0, va_rf l2, .int (nI (max i i2 + 1)), .int (nI (A.length + 1 + A2.length))]))) H := hP
        obtain ⟨hv9, ehv9⟩ : ∃ z : qH, z = qs hv8 q96 (.inr (0, [va_rf x, .long k, .long v0, va_rf l2, .int (nI (max i i2 + 1)), .int (nI (A.length + 1 + A2.length))])) := ⟨_, rfl⟩
        rw [← ehv9] at hP
        have khv9 : ∀ b o, b ≠ q96 → hv8 b = some o → hv9 b = some o := by rw [ehv9]; exact fun b o nb hb => (qs_ne nb).trans hb
        have kp : qKp hv8 hv9 := fun b o hb nb => khv9 b o (fun q => by subst q; exact nb (Option.some.inj (hb.symm.trans fq96))) hb
        replace hA := hA.kp kp
        replace hB := hB.kp kp
        replace hr1 := hr1.kp kp
        replace hl1 := hl1.kp kp
        replace hl2 := hl2.kp kp
        replace hr2 := hr2.kp kp
        replace bq63 := bq63.kp kp
        clear kp
        replace f1 := khv9 _ _ n_q96_a1 f1
        replace f2 := khv9 _ _ n_q96_a2 f2
        replace fq63 := khv9 _ _ n_q96_q63 fq63
        replace fq92 := khv9 _ _ n_q96_q92 fq92
        replace hle : qle h hv9 := fun b o hb => khv9 b o (qne_of oq96 hb) (hle b o hb)
        replace fq96 : hv9 q96 = some (.inr (0, [va_rf x, .long k, .long v0, va_rf l2, .int (nI (max i i2 + 1)), .int (nI (A.length + 1 + A2.length))])) := by rw [ehv9]; exact qs_self
        clear ehv9
        have bq96 := qBr.mk fq96 hA hl2 ⟨by omega, by omega, by omega, by omega, by omega, by omega⟩
        refine lv_aload hx hb dX0_rightLifted_111 (lv_at hl 1 rfl) ?_
        refine q_get C hP f2 rfl inX0 1 (by decide) g492 rfl dX0_rightLifted_113 ?_
        refine lv_aload hx hb dX0_rightLifted_116 (lv_at hl 1 rfl) ?_
        refine q_get C hP f2 rfl inX0 2 (by decide) g494 rfl dX0_rightLifted_118 ?_
        refine lv_aload hx hb dX0_rightLifted_121 (lv_at hl 0 rfl) ?_
        refine q_callI (rest := [.ref q92]) C (c_X0_init l D cy N0 hv9 q92 (some q96) k2 v2 (some q63) (max i i2 + 1) (max j2 j1 + 1) (max (max i i2 + 1) (max j2 j1 + 1) + 1) (A ++ (k, v0) :: A2) (B2 ++ (k1, v1) :: B1) fq92 bq96 bq63 (by omega) (by omega)) kX0_init g487 g488 rfl hP hS (by first | decide | omega) hl.1 rfl (by simp [q_catrf, q_cati, q_catl, q_cata, q_catn]) (by first | decide | omega) dX0_rightLifted_123 (fun v hh6 H locs hq hP hS => ?_)
        obtain ⟨rfl, rfl⟩ := hq
        replace hP : qP D N0 (qs hv9 q92 (.inr (0, [.ref q96, .long k2, .long v2, .ref q63, .int (nI (max (max i i2 + 1) (max j2 j1 + 1) + 1)), .int (nI ((A ++ (k, v0) :: A2).length + 1 + (B2 ++ (k1, v1) :: B1).length))]))) H := hP
        obtain ⟨hv10, ehv10⟩ : ∃ z : qH, z = qs hv9 q92 (.inr (0, [.ref q96, .long k2, .long v2, .ref q63, .int (nI (max (max i i2 + 1) (max j2 j1 + 1) + 1)), .int (nI ((A ++ (k, v0) :: A2).length + 1 + (B2 ++ (k1, v1) :: B1).length))])) := ⟨_, rfl⟩
        rw [← ehv10] at hP
        have khv10 : ∀ b o, b ≠ q92 → hv9 b = some o → hv10 b = some o := by rw [ehv10]; exact fun b o nb hb => (qs_ne nb).trans hb
        have kp : qKp hv9 hv10 := fun b o hb nb => khv10 b o (fun q => by subst q; exact nb (Option.some.inj (hb.symm.trans fq92))) hb
        replace hA := hA.kp kp
        replace hB := hB.kp kp
        replace hr1 := hr1.kp kp
        replace hl1 := hl1.kp kp
        replace hl2 := hl2.kp kp
        replace hr2 := hr2.kp kp
        replace bq63 := bq63.kp kp
        replace bq96 := bq96.kp kp
        clear kp
        replace f1 := khv10 _ _ n_q92_a1 f1
        replace f2 := khv10 _ _ n_q92_a2 f2
        replace fq63 := khv10 _ _ n_q92_q63 fq63
        replace fq96 := khv10 _ _ n_q96_q92.symm fq96
        replace hle : qle h hv10 := fun b o hb => khv10 b o (qne_of oq92 hb) (hle b o hb)
        replace fq92 : hv10 q92 = some (.inr (0, [.ref q96, .long k2, .long v2, .ref q63, .int (nI (max (max i i2 + 1) (max j2 j1 + 1) + 1)), .int (nI ((A ++ (k, v0) :: A2).length + 1 + (B2 ++ (k1, v1) :: B1).length))])) := by rw [ehv10]; exact qs_self
        clear ehv10
        have bq92 := qBr.mk fq92 bq96 bq63 ⟨by omega, by omega, by omega, by omega, by omega, by omega⟩
        exact q_aret (v := (some q92)) C (Or.inl ⟨_, rfl⟩) hP hS ⟨(some q92), (max (max i i2 + 1) (max j2 j1 + 1) + 1), rfl, hle, by simpa using bq92, by omega, by omega⟩ (by omega) dX0_rightLifted_126
      · replace c25 : ¬ j1 < i1 := fun zq => c25 ((nI_ltI (a := j1) (b := i1) (by omega) (by omega)).mpr zq)
        refine q_new (ci := 0) (fs := [.null, .long 0, .long 0, .null, .int 0, .int 0]) C hP hS rfl inX0 tyX0 tyX0_ok g485 g486 g11 (fun j hj => by rcases (show j = 0 ∨ j = 1 ∨ j = 2 ∨ j = 3 ∨ j = 4 ∨ j = 5 by omega) with rfl | rfl | rfl | rfl | rfl | rfl <;> rfl) (by first | decide | omega) (by first | decide | omega) dX0_rightLifted_28 (fun q28 H eq28 hP hS => ?_)
        obtain ⟨hv11, ehv11⟩ : ∃ z : qH, z = qs h q28 (.inr (0, [.null, .long 0, .long 0, .null, .int 0, .int 0])) := ⟨_, rfl⟩
        rw [← ehv11] at hP
        have khv11 : ∀ b o, b ≠ q28 → h b = some o → hv11 b = some o := by rw [ehv11]; exact fun b o nb hb => (qs_ne nb).trans hb
        have kp : qKp h hv11 := fun b o hb _ => khv11 b o (qne_of eq28 hb) hb
        replace hA := hA.kp kp
        replace hB := hB.kp kp
        replace hr1 := hr1.kp kp
        replace hl1 := hl1.kp kp
        replace hl2 := hl2.kp kp
        replace hr2 := hr2.kp kp
        clear kp
        have n_q28_a1 : a1 ≠ q28 := qne_of eq28 f1
        replace f1 := khv11 _ _ n_q28_a1 f1
        have n_q28_a2 : a2 ≠ q28 := qne_of eq28 f2
        replace f2 := khv11 _ _ n_q28_a2 f2
        have oq28 := qle_none hle eq28
        replace hle : qle h hv11 := fun b o hb => khv11 b o (qne_of oq28 hb) (hle b o hb)
        have fq28 : hv11 q28 = some (.inr (0, [.null, .long 0, .long 0, .null, .int 0, .int 0])) := by rw [ehv11]; exact qs_self
        clear ehv11
        refine lv_dup hx hb dX0_rightLifted_31 rfl ?_
        refine q_new (ci := 0) (fs := [.null, .long 0, .long 0, .null, .int 0, .int 0]) C hP hS rfl inX0 tyX0 tyX0_ok g485 g486 g11 (fun j hj => by rcases (show j = 0 ∨ j = 1 ∨ j = 2 ∨ j = 3 ∨ j = 4 ∨ j = 5 by omega) with rfl | rfl | rfl | rfl | rfl | rfl <;> rfl) (by first | decide | omega) (by first | decide | omega) dX0_rightLifted_32 (fun q32 H eq32 hP hS => ?_)
        obtain ⟨hv12, ehv12⟩ : ∃ z : qH, z = qs hv11 q32 (.inr (0, [.null, .long 0, .long 0, .null, .int 0, .int 0])) := ⟨_, rfl⟩
        rw [← ehv12] at hP
        have khv12 : ∀ b o, b ≠ q32 → hv11 b = some o → hv12 b = some o := by rw [ehv12]; exact fun b o nb hb => (qs_ne nb).trans hb
        have kp : qKp hv11 hv12 := fun b o hb _ => khv12 b o (qne_of eq32 hb) hb
        replace hA := hA.kp kp
        replace hB := hB.kp kp
        replace hr1 := hr1.kp kp
        replace hl1 := hl1.kp kp
        replace hl2 := hl2.kp kp
        replace hr2 := hr2.kp kp
        clear kp
        have n_q32_a1 : a1 ≠ q32 := qne_of eq32 f1
        replace f1 := khv12 _ _ n_q32_a1 f1
        have n_q32_a2 : a2 ≠ q32 := qne_of eq32 f2
        replace f2 := khv12 _ _ n_q32_a2 f2
        have n_q32_q28 : q28 ≠ q32 := qne_of eq32 fq28
        replace fq28 := khv12 _ _ n_q32_q28 fq28
        have oq32 := qle_none hle eq32
        replace hle : qle h hv12 := fun b o hb => khv12 b o (qne_of oq32 hb) (hle b o hb)
        have fq32 : hv12 q32 = some (.inr (0, [.null, .long 0, .long 0, .null, .int 0, .int 0])) := by rw [ehv12]; exact qs_self
        clear ehv12
        refine lv_dup hx hb dX0_rightLifted_35 rfl ?_
        refine q_aload_n hx hb dX0_rightLifted_36 rfl (lv_at hl 1 rfl) ?_
        refine lv_lload_n hx hb dX0_rightLifted_37 rfl (lv_at hl 2 rfl) ?_
        refine lv_lload_n hx hb dX0_rightLifted_38 rfl (lv_at hl 3 rfl) ?_
        refine lv_aload hx hb dX0_rightLifted_39 (lv_at hl 0 rfl) ?_
        refine q_callI (rest := [.ref q32, .ref q28, .ref q28]) C (c_X0_init l D cy N0 hv12 q32 x k v0 (some a2) i i1 (max i i1 + 1) A (A2 ++ (k2, v2) :: B2) fq32 hA hl1 (by omega) (by omega)) kX0_init g487 g488 rfl hP hS (by first | decide | omega) hl.1 rfl (by simp [q_catrf, q_cati, q_catl, q_cata, q_catn]) (by first | decide | omega) dX0_rightLifted_41 (fun v hh7 H locs hq hP hS => ?_)
        obtain ⟨rfl, rfl⟩ := hq
        replace hP : qP D N0 (qs hv12 q32 (.inr (0, [va_rf x, .long k, .long v0, .ref a2, .int (nI (max i i1 + 1)), .int (nI (A.length + 1 + (A2 ++ (k2, v2) :: B2).length))]))) H := hP
        obtain ⟨hv13, ehv13⟩ : ∃ z : qH, z = qs hv12 q32 (.inr (0, [va_rf x, .long k, .long v0, .ref a2, .int (nI (max i i1 + 1)), .int (nI (A.length + 1 + (A2 ++ (k2, v2) :: B2).length))])) := ⟨_, rfl⟩
        rw [← ehv13] at hP
        have khv13 : ∀ b o, b ≠ q32 → hv12 b = some o → hv13 b = some o := by rw [ehv13]; exact fun b o nb hb => (qs_ne nb).trans hb
        have kp : qKp hv12 hv13 := fun b o hb nb => khv13 b o (fun q => by subst q; exact nb (Option.some.inj (hb.symm.trans fq32))) hb
        replace hA := hA.kp kp
        replace hB := hB.kp kp
        replace hr1 := hr1.kp kp
        replace hl1 := hl1.kp kp
        replace hl2 := hl2.kp kp
        replace hr2 := hr2.kp kp
        clear kp
        replace f1 := khv13 _ _ n_q32_a1 f1
        replace f2 := khv13 _ _ n_q32_a2 f2
        replace fq28 := khv13 _ _ n_q32_q28 fq28
        replace hle : qle h hv13 := fun b o hb => khv13 b o (qne_of oq32 hb) (hle b o hb)
        replace fq32 : hv13 q32 = some (.inr (0, [va_rf x, .long k, .long v0, .ref a2, .int (nI (max i i1 + 1)), .int (nI (A.length + 1 + (A2 ++ (k2, v2) :: B2).length))])) := by rw [ehv13]; exact qs_self
        clear ehv13
        have bq32 := qBr.mk fq32 hA hl1 ⟨by omega, by omega, by omega, by omega, by omega, by omega⟩
        refine lv_aload hx hb dX0_rightLifted_44 (lv_at hl 4 rfl) ?_
        refine q_get C hP f1 rfl inX0 1 (by decide) g492 rfl dX0_rightLifted_46 ?_
        refine lv_aload hx hb dX0_rightLifted_49 (lv_at hl 4 rfl) ?_
        refine q_get C hP f1 rfl inX0 2 (by decide) g494 rfl dX0_rightLifted_51 ?_
        refine lv_aload hx hb dX0_rightLifted_54 (lv_at hl 4 rfl) ?_
        refine q_get C hP f1 rfl inX0 3 (by decide) g497 rfl dX0_rightLifted_56 ?_
        refine q_callI (rest := [.ref q28]) C (c_X0_init l D cy N0 hv13 q28 (some q32) k1 v1 r1 (max i i1 + 1) j1 (max (max i i1 + 1) j1 + 1) (A ++ (k, v0) :: (A2 ++ (k2, v2) :: B2)) B1 fq28 bq32 hr1 (by omega) (by omega)) kX0_init g487 g488 rfl hP hS (by first | decide | omega) hl.1 rfl (by simp [q_catrf, q_cati, q_catl, q_cata, q_catn]) (by first | decide | omega) dX0_rightLifted_59 (fun v hh8 H locs hq hP hS => ?_)
        obtain ⟨rfl, rfl⟩ := hq
        replace hP : qP D N0 (qs hv13 q28 (.inr (0, [.ref q32, .long k1, .long v1, va_rf r1, .int (nI (max (max i i1 + 1) j1 + 1)), .int (nI ((A ++ (k, v0) :: (A2 ++ (k2, v2) :: B2)).length + 1 + B1.length))]))) H := hP
        obtain ⟨hv14, ehv14⟩ : ∃ z : qH, z = qs hv13 q28 (.inr (0, [.ref q32, .long k1, .long v1, va_rf r1, .int (nI (max (max i i1 + 1) j1 + 1)), .int (nI ((A ++ (k, v0) :: (A2 ++ (k2, v2) :: B2)).length + 1 + B1.length))])) := ⟨_, rfl⟩
        rw [← ehv14] at hP
        have khv14 : ∀ b o, b ≠ q28 → hv13 b = some o → hv14 b = some o := by rw [ehv14]; exact fun b o nb hb => (qs_ne nb).trans hb
        have kp : qKp hv13 hv14 := fun b o hb nb => khv14 b o (fun q => by subst q; exact nb (Option.some.inj (hb.symm.trans fq28))) hb
        replace hA := hA.kp kp
        replace hB := hB.kp kp
        replace hr1 := hr1.kp kp
        replace hl1 := hl1.kp kp
        replace hl2 := hl2.kp kp
        replace hr2 := hr2.kp kp
        replace bq32 := bq32.kp kp
        clear kp
        replace f1 := khv14 _ _ n_q28_a1 f1
        replace f2 := khv14 _ _ n_q28_a2 f2
        replace fq32 := khv14 _ _ n_q32_q28.symm fq32
        replace hle : qle h hv14 := fun b o hb => khv14 b o (qne_of oq28 hb) (hle b o hb)
        replace fq28 : hv14 q28 = some (.inr (0, [.ref q32, .long k1, .long v1, va_rf r1, .int (nI (max (max i i1 + 1) j1 + 1)), .int (nI ((A ++ (k, v0) :: (A2 ++ (k2, v2) :: B2)).length + 1 + B1.length))])) := by rw [ehv14]; exact qs_self
        clear ehv14
        have bq28 := qBr.mk fq28 bq32 hr1 ⟨by omega, by omega, by omega, by omega, by omega, by omega⟩
        exact q_aret (v := (some q28)) C (Or.inl ⟨_, rfl⟩) hP hS ⟨(some q28), (max (max i i1 + 1) j1 + 1), rfl, hle, by simpa using bq28, by omega, by omega⟩ (by omega) dX0_rightLifted_62

theorem dX0_balanced_0 : decode cX0_balanced 0 = .ok (.aload_n 0, 1) := by decide +kernel
theorem dX0_balanced_1 : decode cX0_balanced 1 = .ok (.ifnull 26, 3) := by decide +kernel
theorem dX0_balanced_4 : decode cX0_balanced 4 = .ok (.aload_n 0, 1) := by decide +kernel
theorem dX0_balanced_5 : decode cX0_balanced 5 = .ok (.getfield 23, 3) := by decide +kernel
theorem dX0_balanced_8 : decode cX0_balanced 8 = .ok (.aload 5, 2) := by decide +kernel
theorem dX0_balanced_10 : decode cX0_balanced 10 = .ok (.invokestatic 30, 3) := by decide +kernel
theorem dX0_balanced_13 : decode cX0_balanced 13 = .ok (.iconst 1, 1) := by decide +kernel
theorem dX0_balanced_14 : decode cX0_balanced 14 = .ok (.iadd, 1) := by decide +kernel
theorem dX0_balanced_15 : decode cX0_balanced 15 = .ok (.if_icmp .le 12, 3) := by decide +kernel
theorem dX0_balanced_18 : decode cX0_balanced 18 = .ok (.aload_n 0, 1) := by decide +kernel
theorem dX0_balanced_19 : decode cX0_balanced 19 = .ok (.lload_n 1, 1) := by decide +kernel
theorem dX0_balanced_20 : decode cX0_balanced 20 = .ok (.lload_n 3, 1) := by decide +kernel
theorem dX0_balanced_21 : decode cX0_balanced 21 = .ok (.aload 5, 2) := by decide +kernel
theorem dX0_balanced_23 : decode cX0_balanced 23 = .ok (.invokestatic 44, 3) := by decide +kernel
theorem dX0_balanced_26 : decode cX0_balanced 26 = .ok (.areturn, 1) := by decide +kernel
theorem dX0_balanced_27 : decode cX0_balanced 27 = .ok (.aload 5, 2) := by decide +kernel
theorem dX0_balanced_29 : decode cX0_balanced 29 = .ok (.ifnull 26, 3) := by decide +kernel
theorem dX0_balanced_32 : decode cX0_balanced 32 = .ok (.aload 5, 2) := by decide +kernel
theorem dX0_balanced_34 : decode cX0_balanced 34 = .ok (.getfield 23, 3) := by decide +kernel
theorem dX0_balanced_37 : decode cX0_balanced 37 = .ok (.aload_n 0, 1) := by decide +kernel
theorem dX0_balanced_38 : decode cX0_balanced 38 = .ok (.invokestatic 30, 3) := by decide +kernel
theorem dX0_balanced_41 : decode cX0_balanced 41 = .ok (.iconst 1, 1) := by decide +kernel
theorem dX0_balanced_42 : decode cX0_balanced 42 = .ok (.iadd, 1) := by decide +kernel
theorem dX0_balanced_43 : decode cX0_balanced 43 = .ok (.if_icmp .le 12, 3) := by decide +kernel
theorem dX0_balanced_46 : decode cX0_balanced 46 = .ok (.aload_n 0, 1) := by decide +kernel
theorem dX0_balanced_47 : decode cX0_balanced 47 = .ok (.lload_n 1, 1) := by decide +kernel
theorem dX0_balanced_48 : decode cX0_balanced 48 = .ok (.lload_n 3, 1) := by decide +kernel
theorem dX0_balanced_49 : decode cX0_balanced 49 = .ok (.aload 5, 2) := by decide +kernel
theorem dX0_balanced_51 : decode cX0_balanced 51 = .ok (.invokestatic 47, 3) := by decide +kernel
theorem dX0_balanced_54 : decode cX0_balanced 54 = .ok (.areturn, 1) := by decide +kernel
theorem dX0_balanced_55 : decode cX0_balanced 55 = .ok (.new 8, 3) := by decide +kernel
theorem dX0_balanced_58 : decode cX0_balanced 58 = .ok (.dup, 1) := by decide +kernel
theorem dX0_balanced_59 : decode cX0_balanced 59 = .ok (.aload_n 0, 1) := by decide +kernel
theorem dX0_balanced_60 : decode cX0_balanced 60 = .ok (.lload_n 1, 1) := by decide +kernel
theorem dX0_balanced_61 : decode cX0_balanced 61 = .ok (.lload_n 3, 1) := by decide +kernel
theorem dX0_balanced_62 : decode cX0_balanced 62 = .ok (.aload 5, 2) := by decide +kernel
theorem dX0_balanced_64 : decode cX0_balanced 64 = .ok (.invokespecial 41, 3) := by decide +kernel
theorem dX0_balanced_67 : decode cX0_balanced 67 = .ok (.areturn, 1) := by decide +kernel
set_option maxRecDepth 100000 in
set_option maxHeartbeats 4000000 in
theorem c_X0_balanced (l : Launch) (D : va_G) (cy : Nat → ClassId) (N0 : Nat) (h : qH) (x : Option Nat) (k v0 : Int64) (y : Option Nat) (i j : Nat) (A B : qKV) (hA : qBr h i x A) (hB : qBr h j y B) (hL : A.length + B.length < 1000000) (hij : i ≤ j + 2 ∧ j ≤ i + 2) : qC l D cy N0 yX0_balanced cX0_balanced 6 (some (.object RX0)) 3 67 3 18 [va_rf x, .long k, .long v0, va_rf y] h (fun v h' => ∃ (r9 : Option Nat) (n9 : Nat), v = some (va_rf r9) ∧ qle h h' ∧ qBr h' n9 r9 (A ++ (k, v0) :: B) ∧ i ≤ n9 ∧ j ≤ n9 ∧ (n9 ≤ i + 1 ∨ n9 ≤ j + 1) ∧ (i < n9 ∧ j < n9 ∨ i + 2 ≤ j ∨ j + 2 ≤ i)) (fun E h' => False) := by
  refine q_ofW (by decide) (by simp [lg_sl, q_catrf, q_cati, q_catl, q_cata, q_catn]) ?_
  intro p e s m below meth c ls C hP hl
  have hx := C.1
  have hb := C.2.1
  have hS : va_S (qA N0) s.heap s.heap [] := va_S.rf
  have hl : lv_has ls 6 [(0, va_rf x), (1, .long k), (3, .long v0), (5, va_rf y)] := by simpa [lv_args, q_catrf, q_cati, q_catl, q_cata, q_catn] using hl
  have hle : qle h h := qle_rf
  have zA := hA.len
  have zB := hB.len
  rcases hA.inv with ⟨rfl, rfl, rfl⟩ | ⟨a1, l1, k1, v1, r1, i1, j1, A1, B1, rfl, f1, hl1, hr1, rfl, hg11, hg12, hg13, hg14, hg15, hg16⟩
  · rcases hB.inv with ⟨rfl, rfl, rfl⟩ | ⟨a2, l2, k2, v2, r2, i2, j2, A2, B2, rfl, f2, hl2, hr2, rfl, hg21, hg22, hg23, hg24, hg25, hg26⟩
    · refine lv_aload_nN hx hb dX0_balanced_0 rfl (lv_at hl 0 rfl) ?_
      refine lv_ifnullN (tgt := 27) hx hb dX0_balanced_1 (by decide) ?_
      refine lv_aloadN hx hb dX0_balanced_27 (lv_at hl 3 rfl) ?_
      refine lv_ifnullN (tgt := 55) hx hb dX0_balanced_29 (by decide) ?_
      refine q_new (ci := 0) (fs := [.null, .long 0, .long 0, .null, .int 0, .int 0]) C hP hS rfl inX0 tyX0 tyX0_ok g485 g486 g11 (fun j hj => by rcases (show j = 0 ∨ j = 1 ∨ j = 2 ∨ j = 3 ∨ j = 4 ∨ j = 5 by omega) with rfl | rfl | rfl | rfl | rfl | rfl <;> rfl) (by first | decide | omega) (by first | decide | omega) dX0_balanced_55 (fun q55 H eq55 hP hS => ?_)
      obtain ⟨hv1, ehv1⟩ : ∃ z : qH, z = qs h q55 (.inr (0, [.null, .long 0, .long 0, .null, .int 0, .int 0])) := ⟨_, rfl⟩
      rw [← ehv1] at hP
      have khv1 : ∀ b o, b ≠ q55 → h b = some o → hv1 b = some o := by rw [ehv1]; exact fun b o nb hb => (qs_ne nb).trans hb
      have kp : qKp h hv1 := fun b o hb _ => khv1 b o (qne_of eq55 hb) hb
      clear kp
      have oq55 := qle_none hle eq55
      replace hle : qle h hv1 := fun b o hb => khv1 b o (qne_of oq55 hb) (hle b o hb)
      have fq55 : hv1 q55 = some (.inr (0, [.null, .long 0, .long 0, .null, .int 0, .int 0])) := by rw [ehv1]; exact qs_self
      clear ehv1
      refine lv_dup hx hb dX0_balanced_58 rfl ?_
      refine lv_aload_nN hx hb dX0_balanced_59 rfl (lv_at hl 0 rfl) ?_
      refine lv_lload_n hx hb dX0_balanced_60 rfl (lv_at hl 1 rfl) ?_
      refine lv_lload_n hx hb dX0_balanced_61 rfl (lv_at hl 2 rfl) ?_
      refine lv_aloadN hx hb dX0_balanced_62 (lv_at hl 3 rfl) ?_
      refine q_callI (rest := [.ref q55]) C (c_X0_init l D cy N0 hv1 q55 none k v0 none 0 0 (max 0 0 + 1) ([] : qKV) ([] : qKV) fq55 qBr.nil qBr.nil (by omega) (by omega)) kX0_init g487 g488 rfl hP hS (by first | decide | omega) hl.1 rfl (by simp [q_catrf, q_cati, q_catl, q_cata, q_catn]) (by first | decide | omega) dX0_balanced_64 (fun v hh1 H locs hq hP hS => ?_)
      obtain ⟨rfl, rfl⟩ := hq
      replace hP : qP D N0 (qs hv1 q55 (.inr (0, [.null, .long k, .long v0, .null, .int (nI (max 0 0 + 1)), .int (nI (([] : qKV).length + 1 + ([] : qKV).length))]))) H := hP
      obtain ⟨hv2, ehv2⟩ : ∃ z : qH, z = qs hv1 q55 (.inr (0, [.null, .long k, .long v0, .null, .int (nI (max 0 0 + 1)), .int (nI (([] : qKV).length + 1 + ([] : qKV).length))])) := ⟨_, rfl⟩
      rw [← ehv2] at hP
      have khv2 : ∀ b o, b ≠ q55 → hv1 b = some o → hv2 b = some o := by rw [ehv2]; exact fun b o nb hb => (qs_ne nb).trans hb
      have kp : qKp hv1 hv2 := fun b o hb nb => khv2 b o (fun q => by subst q; exact nb (Option.some.inj (hb.symm.trans fq55))) hb
      clear kp
      replace hle : qle h hv2 := fun b o hb => khv2 b o (qne_of oq55 hb) (hle b o hb)
      replace fq55 : hv2 q55 = some (.inr (0, [.null, .long k, .long v0, .null, .int (nI (max 0 0 + 1)), .int (nI (([] : qKV).length + 1 + ([] : qKV).length))])) := by rw [ehv2]; exact qs_self
      clear ehv2
      have bq55 := qBr.mk fq55 qBr.nil qBr.nil ⟨by omega, by omega, by omega, by omega, by omega, by omega⟩
      exact q_aret (v := (some q55)) C (Or.inl ⟨_, rfl⟩) hP hS ⟨(some q55), (max 0 0 + 1), rfl, hle, by simpa using bq55, by omega, by omega, by omega, by omega⟩ (by omega) dX0_balanced_67
    · have zl2 := hl2.len
      have zr2 := hr2.len
      have eL2 : (A2 ++ (k2, v2) :: B2).length = A2.length + (B2.length + 1) := by rw [List.length_append, List.length_cons]
      simp only [List.length_append, List.length_cons, List.length_nil] at hL zA zB
      refine lv_aload_nN hx hb dX0_balanced_0 rfl (lv_at hl 0 rfl) ?_
      refine lv_ifnullN (tgt := 27) hx hb dX0_balanced_1 (by decide) ?_
      refine lv_aload hx hb dX0_balanced_27 (lv_at hl 3 rfl) ?_
      refine lv_ifnull hx hb dX0_balanced_29 ?_
      refine lv_aload hx hb dX0_balanced_32 (lv_at hl 3 rfl) ?_
      refine q_get C hP f2 rfl inX0 4 (by decide) g498 rfl dX0_balanced_34 ?_
      refine lv_aload_nN hx hb dX0_balanced_37 rfl (lv_at hl 0 rfl) ?_
      refine q_callS (rest := [.int (nI j)]) C (c_X0_heightOf l D cy N0 h none (nI 0) (qBr.nil (h := h)).fiH) kX0_heightOf g475 g476 hP hS (by first | decide | omega) hl.1 rfl (by simp [q_catrf, q_cati, q_catl, q_cata, q_catn]) (by first | decide | omega) dX0_balanced_38 (fun q ce E h' H1 locs1 hE => hE.elim) (fun v hh2 H locs hq hP hS => ?_)
      obtain ⟨rfl, rfl⟩ := hq
      refine lv_iconst (v := nI 1) hx hb dX0_balanced_41 (by decide) ?_
      refine q_iaddN hx hb dX0_balanced_42 ?_
      refine lv_icmp_le (tgt := 55) hx hb dX0_balanced_43 (by decide) (fun c43 => ?_) (fun c43 => ?_)
      · replace c43 : j ≤ (0 + 1) := (nI_leI (a := j) (b := (0 + 1)) (by omega) (by omega)).mp c43
        refine q_new (ci := 0) (fs := [.null, .long 0, .long 0, .null, .int 0, .int 0]) C hP hS rfl inX0 tyX0 tyX0_ok g485 g486 g11 (fun j hj => by rcases (show j = 0 ∨ j = 1 ∨ j = 2 ∨ j = 3 ∨ j = 4 ∨ j = 5 by omega) with rfl | rfl | rfl | rfl | rfl | rfl <;> rfl) (by first | decide | omega) (by first | decide | omega) dX0_balanced_55 (fun q55 H eq55 hP hS => ?_)
        obtain ⟨hv3, ehv3⟩ : ∃ z : qH, z = qs h q55 (.inr (0, [.null, .long 0, .long 0, .null, .int 0, .int 0])) := ⟨_, rfl⟩
        rw [← ehv3] at hP
        have khv3 : ∀ b o, b ≠ q55 → h b = some o → hv3 b = some o := by rw [ehv3]; exact fun b o nb hb => (qs_ne nb).trans hb
        have kp : qKp h hv3 := fun b o hb _ => khv3 b o (qne_of eq55 hb) hb
        replace hB := hB.kp kp
        replace hl2 := hl2.kp kp
        replace hr2 := hr2.kp kp
        clear kp
        have n_q55_a2 : a2 ≠ q55 := qne_of eq55 f2
        replace f2 := khv3 _ _ n_q55_a2 f2
        have oq55 := qle_none hle eq55
        replace hle : qle h hv3 := fun b o hb => khv3 b o (qne_of oq55 hb) (hle b o hb)
        have fq55 : hv3 q55 = some (.inr (0, [.null, .long 0, .long 0, .null, .int 0, .int 0])) := by rw [ehv3]; exact qs_self
        clear ehv3
        refine lv_dup hx hb dX0_balanced_58 rfl ?_
        refine lv_aload_nN hx hb dX0_balanced_59 rfl (lv_at hl 0 rfl) ?_
        refine lv_lload_n hx hb dX0_balanced_60 rfl (lv_at hl 1 rfl) ?_
        refine lv_lload_n hx hb dX0_balanced_61 rfl (lv_at hl 2 rfl) ?_
        refine lv_aload hx hb dX0_balanced_62 (lv_at hl 3 rfl) ?_
        refine q_callI (rest := [.ref q55]) C (c_X0_init l D cy N0 hv3 q55 none k v0 (some a2) 0 j (max 0 j + 1) ([] : qKV) (A2 ++ (k2, v2) :: B2) fq55 qBr.nil hB (by omega) (by omega)) kX0_init g487 g488 rfl hP hS (by first | decide | omega) hl.1 rfl (by simp [q_catrf, q_cati, q_catl, q_cata, q_catn]) (by first | decide | omega) dX0_balanced_64 (fun v hh3 H locs hq hP hS => ?_)
        obtain ⟨rfl, rfl⟩ := hq
        replace hP : qP D N0 (qs hv3 q55 (.inr (0, [.null, .long k, .long v0, .ref a2, .int (nI (max 0 j + 1)), .int (nI (([] : qKV).length + 1 + (A2 ++ (k2, v2) :: B2).length))]))) H := hP
        obtain ⟨hv4, ehv4⟩ : ∃ z : qH, z = qs hv3 q55 (.inr (0, [.null, .long k, .long v0, .ref a2, .int (nI (max 0 j + 1)), .int (nI (([] : qKV).length + 1 + (A2 ++ (k2, v2) :: B2).length))])) := ⟨_, rfl⟩
        rw [← ehv4] at hP
        have khv4 : ∀ b o, b ≠ q55 → hv3 b = some o → hv4 b = some o := by rw [ehv4]; exact fun b o nb hb => (qs_ne nb).trans hb
        have kp : qKp hv3 hv4 := fun b o hb nb => khv4 b o (fun q => by subst q; exact nb (Option.some.inj (hb.symm.trans fq55))) hb
        replace hB := hB.kp kp
        replace hl2 := hl2.kp kp
        replace hr2 := hr2.kp kp
        clear kp
        replace f2 := khv4 _ _ n_q55_a2 f2
        replace hle : qle h hv4 := fun b o hb => khv4 b o (qne_of oq55 hb) (hle b o hb)
        replace fq55 : hv4 q55 = some (.inr (0, [.null, .long k, .long v0, .ref a2, .int (nI (max 0 j + 1)), .int (nI (([] : qKV).length + 1 + (A2 ++ (k2, v2) :: B2).length))])) := by rw [ehv4]; exact qs_self
        clear ehv4
        have bq55 := qBr.mk fq55 qBr.nil hB ⟨by omega, by omega, by omega, by omega, by omega, by omega⟩
        exact q_aret (v := (some q55)) C (Or.inl ⟨_, rfl⟩) hP hS ⟨(some q55), (max 0 j + 1), rfl, hle, by simpa using bq55, by omega, by omega, by omega, by omega⟩ (by omega) dX0_balanced_67
      · replace c43 : ¬ j ≤ (0 + 1) := fun zq => c43 ((nI_leI (a := j) (b := (0 + 1)) (by omega) (by omega)).mpr zq)
        refine lv_aload_nN hx hb dX0_balanced_46 rfl (lv_at hl 0 rfl) ?_
        refine lv_lload_n hx hb dX0_balanced_47 rfl (lv_at hl 1 rfl) ?_
        refine lv_lload_n hx hb dX0_balanced_48 rfl (lv_at hl 2 rfl) ?_
        refine lv_aload hx hb dX0_balanced_49 (lv_at hl 3 rfl) ?_
        refine q_callS (rest := []) C (c_X0_rightLifted l D cy N0 h none k v0 (some a2) 0 j ([] : qKV) (A2 ++ (k2, v2) :: B2) qBr.nil hB (by first | omega | (simp only [List.length_append, List.length_cons, List.length_nil, List.length_take, List.length_drop, List.length_set]; omega)) (by omega)) kX0_rightLifted g513 g514 hP hS (by first | decide | omega) hl.1 rfl (by decide) (by first | decide | omega) dX0_balanced_51 (fun q ce E h' H1 locs1 hE => hE.elim) (fun v hh4 H locs hq hP hS => ?_)
        obtain ⟨r51, n51, rfl, hl51, b51, y51, w51⟩ := hq
        replace f2 := hl51 _ _ f2
        replace hB := hB.le hl51
        replace hl2 := hl2.le hl51
        replace hr2 := hr2.le hl51
        replace hle := qle_tr hle hl51
        have z51 := b51.len
        try simp only [List.length_append, List.length_cons, List.length_nil] at z51
        exact q_aret (v := r51) C (Or.inl ⟨_, rfl⟩) hP hS ⟨r51, n51, rfl, hle, by simpa using b51, by omega, by omega, by omega, by omega⟩ (by omega) dX0_balanced_54
  · have zl1 := hl1.len
    have zr1 := hr1.len
    have eL1 : (A1 ++ (k1, v1) :: B1).length = A1.length + (B1.length + 1) := by rw [List.length_append, List.length_cons]
    simp only [List.length_append, List.length_cons, List.length_nil] at hL zA zB
    rcases hB.inv with ⟨rfl, rfl, rfl⟩ | ⟨a2, l2, k2, v2, r2, i2, j2, A2, B2, rfl, f2, hl2, hr2, rfl, hg21, hg22, hg23, hg24, hg25, hg26⟩
    · refine lv_aload_n hx hb dX0_balanced_0 rfl (lv_at hl 0 rfl) ?_
      refine lv_ifnull hx hb dX0_balanced_1 ?_
      refine lv_aload_n hx hb dX0_balanced_4 rfl (lv_at hl 0 rfl) ?_
      refine q_get C hP f1 rfl inX0 4 (by decide) g498 rfl dX0_balanced_5 ?_
      refine lv_aloadN hx hb dX0_balanced_8 (lv_at hl 3 rfl) ?_
      refine q_callS (rest := [.int (nI i)]) C (c_X0_heightOf l D cy N0 h none (nI 0) (qBr.nil (h := h)).fiH) kX0_heightOf g475 g476 hP hS (by first | decide | omega) hl.1 rfl (by simp [q_catrf, q_cati, q_catl, q_cata, q_catn]) (by first | decide | omega) dX0_balanced_10 (fun q ce E h' H1 locs1 hE => hE.elim) (fun v hh5 H locs hq hP hS => ?_)
      obtain ⟨rfl, rfl⟩ := hq
      refine lv_iconst (v := nI 1) hx hb dX0_balanced_13 (by decide) ?_
      refine q_iaddN hx hb dX0_balanced_14 ?_
      refine lv_icmp_le (tgt := 27) hx hb dX0_balanced_15 (by decide) (fun c15 => ?_) (fun c15 => ?_)
      · replace c15 : i ≤ (0 + 1) := (nI_leI (a := i) (b := (0 + 1)) (by omega) (by omega)).mp c15
        refine lv_aloadN hx hb dX0_balanced_27 (lv_at hl 3 rfl) ?_
        refine lv_ifnullN (tgt := 55) hx hb dX0_balanced_29 (by decide) ?_
        refine q_new (ci := 0) (fs := [.null, .long 0, .long 0, .null, .int 0, .int 0]) C hP hS rfl inX0 tyX0 tyX0_ok g485 g486 g11 (fun j hj => by rcases (show j = 0 ∨ j = 1 ∨ j = 2 ∨ j = 3 ∨ j = 4 ∨ j = 5 by omega) with rfl | rfl | rfl | rfl | rfl | rfl <;> rfl) (by first | decide | omega) (by first | decide | omega) dX0_balanced_55 (fun q55 H eq55 hP hS => ?_)
        obtain ⟨hv5, ehv5⟩ : ∃ z : qH, z = qs h q55 (.inr (0, [.null, .long 0, .long 0, .null, .int 0, .int 0])) := ⟨_, rfl⟩
        rw [← ehv5] at hP
        have khv5 : ∀ b o, b ≠ q55 → h b = some o → hv5 b = some o := by rw [ehv5]; exact fun b o nb hb => (qs_ne nb).trans hb
        have kp : qKp h hv5 := fun b o hb _ => khv5 b o (qne_of eq55 hb) hb
        replace hA := hA.kp kp
        replace hl1 := hl1.kp kp
        replace hr1 := hr1.kp kp
        clear kp
        have n_q55_a1 : a1 ≠ q55 := qne_of eq55 f1
        replace f1 := khv5 _ _ n_q55_a1 f1
        have oq55 := qle_none hle eq55
        replace hle : qle h hv5 := fun b o hb => khv5 b o (qne_of oq55 hb) (hle b o hb)
        have fq55 : hv5 q55 = some (.inr (0, [.null, .long 0, .long 0, .null, .int 0, .int 0])) := by rw [ehv5]; exact qs_self
        clear ehv5
        refine lv_dup hx hb dX0_balanced_58 rfl ?_
        refine lv_aload_n hx hb dX0_balanced_59 rfl (lv_at hl 0 rfl) ?_
        refine lv_lload_n hx hb dX0_balanced_60 rfl (lv_at hl 1 rfl) ?_
        refine lv_lload_n hx hb dX0_balanced_61 rfl (lv_at hl 2 rfl) ?_
        refine lv_aloadN hx hb dX0_balanced_62 (lv_at hl 3 rfl) ?_
        refine q_callI (rest := [.ref q55]) C (c_X0_init l D cy N0 hv5 q55 (some a1) k v0 none i 0 (max i 0 + 1) (A1 ++ (k1, v1) :: B1) ([] : qKV) fq55 hA qBr.nil (by omega) (by omega)) kX0_init g487 g488 rfl hP hS (by first | decide | omega) hl.1 rfl (by simp [q_catrf, q_cati, q_catl, q_cata, q_catn]) (by first | decide | omega) dX0_balanced_64 (fun v hh6 H locs hq hP hS => ?_)
        obtain ⟨rfl, rfl⟩ := hq
        replace hP : qP D N0 (qs hv5 q55 (.inr (0, [.ref a1, .long k, .long v0, .null, .int (nI (max i 0 + 1)), .int (nI ((A1 ++ (k1, v1) :: B1).length + 1 + ([] : qKV).length))]))) H := hP
        obtain ⟨hv6, ehv6⟩ : ∃ z : qH, z = qs hv5 q55 (.inr (0, [.ref a1, .long k, .long v0, .null, .int (nI (max i 0 + 1)), .int (nI ((A1 ++ (k1, v1) :: B1).length + 1 + ([] : qKV).length))])) := ⟨_, rfl⟩
        rw [← ehv6] at hP
        have khv6 : ∀ b o, b ≠ q55 → hv5 b = some o → hv6 b = some o := by rw [ehv6]; exact fun b o nb hb => (qs_ne nb).trans hb
        have kp : qKp hv5 hv6 := fun b o hb nb => khv6 b o (fun q => by subst q; exact nb (Option.some.inj (hb.symm.trans fq55))) hb
        replace hA := hA.kp kp
        replace hl1 := hl1.kp kp
        replace hr1 := hr1.kp kp
        clear kp
        replace f1 := khv6 _ _ n_q55_a1 f1
        replace hle : qle h hv6 := fun b o hb => khv6 b o (qne_of oq55 hb) (hle b o hb)
        replace fq55 : hv6 q55 = some (.inr (0, [.ref a1, .long k, .long v0, .null, .int (nI (max i 0 + 1)), .int (nI ((A1 ++ (k1, v1) :: B1).length + 1 + ([] : qKV).length))])) := by rw [ehv6]; exact qs_self
        clear ehv6
        have bq55 := qBr.mk fq55 hA qBr.nil ⟨by omega, by omega, by omega, by omega, by omega, by omega⟩
        exact q_aret (v := (some q55)) C (Or.inl ⟨_, rfl⟩) hP hS ⟨(some q55), (max i 0 + 1), rfl, hle, by simpa using bq55, by omega, by omega, by omega, by omega⟩ (by omega) dX0_balanced_67
      · replace c15 : ¬ i ≤ (0 + 1) := fun zq => c15 ((nI_leI (a := i) (b := (0 + 1)) (by omega) (by omega)).mpr zq)
        refine lv_aload_n hx hb dX0_balanced_18 rfl (lv_at hl 0 rfl) ?_
        refine lv_lload_n hx hb dX0_balanced_19 rfl (lv_at hl 1 rfl) ?_
        refine lv_lload_n hx hb dX0_balanced_20 rfl (lv_at hl 2 rfl) ?_
        refine lv_aloadN hx hb dX0_balanced_21 (lv_at hl 3 rfl) ?_
        refine q_callS (rest := []) C (c_X0_leftLifted l D cy N0 h (some a1) k v0 none i 0 (A1 ++ (k1, v1) :: B1) ([] : qKV) hA qBr.nil (by first | omega | (simp only [List.length_append, List.length_cons, List.length_nil, List.length_take, List.length_drop, List.length_set]; omega)) (by omega)) kX0_leftLifted g482 g483 hP hS (by first | decide | omega) hl.1 rfl (by decide) (by first | decide | omega) dX0_balanced_23 (fun q ce E h' H1 locs1 hE => hE.elim) (fun v hh7 H locs hq hP hS => ?_)
        obtain ⟨r52, n52, rfl, hl52, b52, y52, w52⟩ := hq
        replace f1 := hl52 _ _ f1
        replace hA := hA.le hl52
        replace hl1 := hl1.le hl52
        replace hr1 := hr1.le hl52
        replace hle := qle_tr hle hl52
        have z52 := b52.len
        try simp only [List.length_append, List.length_cons, List.length_nil] at z52
        exact q_aret (v := r52) C (Or.inl ⟨_, rfl⟩) hP hS ⟨r52, n52, rfl, hle, by simpa using b52, by omega, by omega, by omega, by omega⟩ (by omega) dX0_balanced_26
    · have zl2 := hl2.len
      have zr2 := hr2.len
      have eL2 : (A2 ++ (k2, v2) :: B2).length = A2.length + (B2.length + 1) := by rw [List.length_append, List.length_cons]
      simp only [List.length_append, List.length_cons, List.length_nil] at hL zA zB
      refine lv_aload_n hx hb dX0_balanced_0 rfl (lv_at hl 0 rfl) ?_
      refine lv_ifnull hx hb dX0_balanced_1 ?_
      refine lv_aload_n hx hb dX0_balanced_4 rfl (lv_at hl 0 rfl) ?_
      refine q_get C hP f1 rfl inX0 4 (by decide) g498 rfl dX0_balanced_5 ?_
      refine lv_aload hx hb dX0_balanced_8 (lv_at hl 3 rfl) ?_
      refine q_callS (rest := [.int (nI i)]) C (c_X0_heightOf l D cy N0 h (some a2) (nI j) hB.fiH) kX0_heightOf g475 g476 hP hS (by first | decide | omega) hl.1 rfl (by simp [q_catrf, q_cati, q_catl, q_cata, q_catn]) (by first | decide | omega) dX0_balanced_10 (fun q ce E h' H1 locs1 hE => hE.elim) (fun v hh8 H locs hq hP hS => ?_)
      obtain ⟨rfl, rfl⟩ := hq
      refine lv_iconst (v := nI 1) hx hb dX0_balanced_13 (by decide) ?_
      refine q_iaddN hx hb dX0_balanced_14 ?_
      refine lv_icmp_le (tgt := 27) hx hb dX0_balanced_15 (by decide) (fun c15 => ?_) (fun c15 => ?_)
      · replace c15 : i ≤ (j + 1) := (nI_leI (a := i) (b := (j + 1)) (by omega) (by omega)).mp c15
        refine lv_aload hx hb dX0_balanced_27 (lv_at hl 3 rfl) ?_
        refine lv_ifnull hx hb dX0_balanced_29 ?_
        refine lv_aload hx hb dX0_balanced_32 (lv_at hl 3 rfl) ?_
        refine q_get C hP f2 rfl inX0 4 (by decide) g498 rfl dX0_balanced_34 ?_
        refine lv_aload_n hx hb dX0_balanced_37 rfl (lv_at hl 0 rfl) ?_
        refine q_callS (rest := [.int (nI j)]) C (c_X0_heightOf l D cy N0 h (some a1) (nI i) hA.fiH) kX0_heightOf g475 g476 hP hS (by first | decide | omega) hl.1 rfl (by simp [q_catrf, q_cati, q_catl, q_cata, q_catn]) (by first | decide | omega) dX0_balanced_38 (fun q ce E h' H1 locs1 hE => hE.elim) (fun v hh9 H locs hq hP hS => ?_)
        obtain ⟨rfl, rfl⟩ := hq
        refine lv_iconst (v := nI 1) hx hb dX0_balanced_41 (by decide) ?_
        refine q_iaddN hx hb dX0_balanced_42 ?_
        refine lv_icmp_le (tgt := 55) hx hb dX0_balanced_43 (by decide) (fun c43 => ?_) (fun c43 => ?_)
        · replace c43 : j ≤ (i + 1) := (nI_leI (a := j) (b := (i + 1)) (by omega) (by omega)).mp c43
          refine q_new (ci := 0) (fs := [.null, .long 0, .long 0, .null, .int 0, .int 0]) C hP hS rfl inX0 tyX0 tyX0_ok g485 g486 g11 (fun j hj => by rcases (show j = 0 ∨ j = 1 ∨ j = 2 ∨ j = 3 ∨ j = 4 ∨ j = 5 by omega) with rfl | rfl | rfl | rfl | rfl | rfl <;> rfl) (by first | decide | omega) (by first | decide | omega) dX0_balanced_55 (fun q55 H eq55 hP hS => ?_)
          obtain ⟨hv7, ehv7⟩ : ∃ z : qH, z = qs h q55 (.inr (0, [.null, .long 0, .long 0, .null, .int 0, .int 0])) := ⟨_, rfl⟩
          rw [← ehv7] at hP
          have khv7 : ∀ b o, b ≠ q55 → h b = some o → hv7 b = some o := by rw [ehv7]; exact fun b o nb hb => (qs_ne nb).trans hb
          have kp : qKp h hv7 := fun b o hb _ => khv7 b o (qne_of eq55 hb) hb
          replace hA := hA.kp kp
          replace hl1 := hl1.kp kp
          replace hr1 := hr1.kp kp
          replace hB := hB.kp kp
          replace hl2 := hl2.kp kp
          replace hr2 := hr2.kp kp
          clear kp
          have n_q55_a1 : a1 ≠ q55 := qne_of eq55 f1
          replace f1 := khv7 _ _ n_q55_a1 f1
          have n_q55_a2 : a2 ≠ q55 := qne_of eq55 f2
          replace f2 := khv7 _ _ n_q55_a2 f2
          have oq55 := qle_none hle eq55
          replace hle : qle h hv7 := fun b o hb => khv7 b o (qne_of oq55 hb) (hle b o hb)
          have fq55 : hv7 q55 = some (.inr (0, [.null, .long 0, .long 0, .null, .int 0, .int 0])) := by rw [ehv7]; exact qs_self
          clear ehv7
          refine lv_dup hx hb dX0_balanced_58 rfl ?_
          refine lv_aload_n hx hb dX0_balanced_59 rfl (lv_at hl 0 rfl) ?_
          refine lv_lload_n hx hb dX0_balanced_60 rfl (lv_at hl 1 rfl) ?_
          refine lv_lload_n hx hb dX0_balanced_61 rfl (lv_at hl 2 rfl) ?_
          refine lv_aload hx hb dX0_balanced_62 (lv_at hl 3 rfl) ?_
          refine q_callI (rest := [.ref q55]) C (c_X0_init l D cy N0 hv7 q55 (some a1) k v0 (some a2) i j (max i j + 1) (A1 ++ (k1, v1) :: B1) (A2 ++ (k2, v2) :: B2) fq55 hA hB (by omega) (by omega)) kX0_init g487 g488 rfl hP hS (by first | decide | omega) hl.1 rfl (by simp [q_catrf, q_cati, q_catl, q_cata, q_catn]) (by first | decide | omega) dX0_balanced_64 (fun v hh10 H locs hq hP hS => ?_)
          obtain ⟨rfl, rfl⟩ := hq
          replace hP : qP D N0 (qs hv7 q55 (.inr (0, [.ref a1, .long k, .long v0, .ref a2, .int (nI (max i j + 1)), .int (nI ((A1 ++ (k1, v1) :: B1).length + 1 + (A2 ++ (k2, v2) :: B2).length))]))) H := hP
          obtain ⟨hv8, ehv8⟩ : ∃ z : qH, z = qs hv7 q55 (.inr (0, [.ref a1, .long k, .long v0, .ref a2, .int (nI (max i j + 1)), .int (nI ((A1 ++ (k1, v1) :: B1).length + 1 + (A2 ++ (k2, v2) :: B2).length))])) := ⟨_, rfl⟩
          rw [← ehv8] at hP
          have khv8 : ∀ b o, b ≠ q55 → hv7 b = some o → hv8 b = some o := by rw [ehv8]; exact fun b o nb hb => (qs_ne nb).trans hb
          have kp : qKp hv7 hv8 := fun b o hb nb => khv8 b o (fun q => by subst q; exact nb (Option.some.inj (hb.symm.trans fq55))) hb
          replace hA := hA.kp kp
          replace hl1 := hl1.kp kp
          replace hr1 := hr1.kp kp
          replace hB := hB.kp kp
          replace hl2 := hl2.kp kp
          replace hr2 := hr2.kp kp
          clear kp
          replace f1 := khv8 _ _ n_q55_a1 f1
          replace f2 := khv8 _ _ n_q55_a2 f2
          replace hle : qle h hv8 := fun b o hb => khv8 b o (qne_of oq55 hb) (hle b o hb)
          replace fq55 : hv8 q55 = some (.inr (0, [.ref a1, .long k, .long v0, .ref a2, .int (nI (max i j + 1)), .int (nI ((A1 ++ (k1, v1) :: B1).length + 1 + (A2 ++ (k2, v2) :: B2).length))])) := by rw [ehv8]; exact qs_self
          clear ehv8
          have bq55 := qBr.mk fq55 hA hB ⟨by omega, by omega, by omega, by omega, by omega, by omega⟩
          exact q_aret (v := (some q55)) C (Or.inl ⟨_, rfl⟩) hP hS ⟨(some q55), (max i j + 1), rfl, hle, by simpa using bq55, by omega, by omega, by omega, by omega⟩ (by omega) dX0_balanced_67
        · replace c43 : ¬ j ≤ (i + 1) := fun zq => c43 ((nI_leI (a := j) (b := (i + 1)) (by omega) (by omega)).mpr zq)
          refine lv_aload_n hx hb dX0_balanced_46 rfl (lv_at hl 0 rfl) ?_
          refine lv_lload_n hx hb dX0_balanced_47 rfl (lv_at hl 1 rfl) ?_
          refine lv_lload_n hx hb dX0_balanced_48 rfl (lv_at hl 2 rfl) ?_
          refine lv_aload hx hb dX0_balanced_49 (lv_at hl 3 rfl) ?_
          refine q_callS (rest := []) C (c_X0_rightLifted l D cy N0 h (some a1) k v0 (some a2) i j (A1 ++ (k1, v1) :: B1) (A2 ++ (k2, v2) :: B2) hA hB (by first | omega | (simp only [List.length_append, List.length_cons, List.length_nil, List.length_take, List.length_drop, List.length_set]; omega)) (by omega)) kX0_rightLifted g513 g514 hP hS (by first | decide | omega) hl.1 rfl (by decide) (by first | decide | omega) dX0_balanced_51 (fun q ce E h' H1 locs1 hE => hE.elim) (fun v hh11 H locs hq hP hS => ?_)
          obtain ⟨r53, n53, rfl, hl53, b53, y53, w53⟩ := hq
          replace f1 := hl53 _ _ f1
          replace f2 := hl53 _ _ f2
          replace hA := hA.le hl53
          replace hl1 := hl1.le hl53
          replace hr1 := hr1.le hl53
          replace hB := hB.le hl53
          replace hl2 := hl2.le hl53
          replace hr2 := hr2.le hl53
          replace hle := qle_tr hle hl53
          have z53 := b53.len
          try simp only [List.length_append, List.length_cons, List.length_nil] at z53
          exact q_aret (v := r53) C (Or.inl ⟨_, rfl⟩) hP hS ⟨r53, n53, rfl, hle, by simpa using b53, by omega, by omega, by omega, by omega⟩ (by omega) dX0_balanced_54
      · replace c15 : ¬ i ≤ (j + 1) := fun zq => c15 ((nI_leI (a := i) (b := (j + 1)) (by omega) (by omega)).mpr zq)
        refine lv_aload_n hx hb dX0_balanced_18 rfl (lv_at hl 0 rfl) ?_
        refine lv_lload_n hx hb dX0_balanced_19 rfl (lv_at hl 1 rfl) ?_
        refine lv_lload_n hx hb dX0_balanced_20 rfl (lv_at hl 2 rfl) ?_
        refine lv_aload hx hb dX0_balanced_21 (lv_at hl 3 rfl) ?_
        refine q_callS (rest := []) C (c_X0_leftLifted l D cy N0 h (some a1) k v0 (some a2) i j (A1 ++ (k1, v1) :: B1) (A2 ++ (k2, v2) :: B2) hA hB (by first | omega | (simp only [List.length_append, List.length_cons, List.length_nil, List.length_take, List.length_drop, List.length_set]; omega)) (by omega)) kX0_leftLifted g482 g483 hP hS (by first | decide | omega) hl.1 rfl (by decide) (by first | decide | omega) dX0_balanced_23 (fun q ce E h' H1 locs1 hE => hE.elim) (fun v hh12 H locs hq hP hS => ?_)
        obtain ⟨r54, n54, rfl, hl54, b54, y54, w54⟩ := hq
        replace f1 := hl54 _ _ f1
        replace f2 := hl54 _ _ f2
        replace hA := hA.le hl54
        replace hl1 := hl1.le hl54
        replace hr1 := hr1.le hl54
        replace hB := hB.le hl54
        replace hl2 := hl2.le hl54
        replace hr2 := hr2.le hl54
        replace hle := qle_tr hle hl54
        have z54 := b54.len
        try simp only [List.length_append, List.length_cons, List.length_nil] at z54
        exact q_aret (v := r54) C (Or.inl ⟨_, rfl⟩) hP hS ⟨r54, n54, rfl, hle, by simpa using b54, by omega, by omega, by omega, by omega⟩ (by omega) dX0_balanced_26

theorem dX0_linked_0 : decode cX0_linked 0 = .ok (.aload_n 0, 1) := by decide +kernel
theorem dX0_linked_1 : decode cX0_linked 1 = .ok (.ifnull 44, 3) := by decide +kernel
theorem dX0_linked_4 : decode cX0_linked 4 = .ok (.aload_n 0, 1) := by decide +kernel
theorem dX0_linked_5 : decode cX0_linked 5 = .ok (.getfield 23, 3) := by decide +kernel
theorem dX0_linked_8 : decode cX0_linked 8 = .ok (.aload 5, 2) := by decide +kernel
theorem dX0_linked_10 : decode cX0_linked 10 = .ok (.invokestatic 30, 3) := by decide +kernel
theorem dX0_linked_13 : decode cX0_linked 13 = .ok (.iconst 1, 1) := by decide +kernel
theorem dX0_linked_14 : decode cX0_linked 14 = .ok (.iadd, 1) := by decide +kernel
theorem dX0_linked_15 : decode cX0_linked 15 = .ok (.if_icmp .le 30, 3) := by decide +kernel
theorem dX0_linked_18 : decode cX0_linked 18 = .ok (.aload_n 0, 1) := by decide +kernel
theorem dX0_linked_19 : decode cX0_linked 19 = .ok (.getfield 7, 3) := by decide +kernel
theorem dX0_linked_22 : decode cX0_linked 22 = .ok (.aload_n 0, 1) := by decide +kernel
theorem dX0_linked_23 : decode cX0_linked 23 = .ok (.getfield 13, 3) := by decide +kernel
theorem dX0_linked_26 : decode cX0_linked 26 = .ok (.aload_n 0, 1) := by decide +kernel
theorem dX0_linked_27 : decode cX0_linked 27 = .ok (.getfield 17, 3) := by decide +kernel
theorem dX0_linked_30 : decode cX0_linked 30 = .ok (.aload_n 0, 1) := by decide +kernel
theorem dX0_linked_31 : decode cX0_linked 31 = .ok (.getfield 20, 3) := by decide +kernel
theorem dX0_linked_34 : decode cX0_linked 34 = .ok (.lload_n 1, 1) := by decide +kernel
theorem dX0_linked_35 : decode cX0_linked 35 = .ok (.lload_n 3, 1) := by decide +kernel
theorem dX0_linked_36 : decode cX0_linked 36 = .ok (.aload 5, 2) := by decide +kernel
theorem dX0_linked_38 : decode cX0_linked 38 = .ok (.invokestatic 34, 3) := by decide +kernel
theorem dX0_linked_41 : decode cX0_linked 41 = .ok (.invokestatic 38, 3) := by decide +kernel
theorem dX0_linked_44 : decode cX0_linked 44 = .ok (.areturn, 1) := by decide +kernel
theorem dX0_linked_45 : decode cX0_linked 45 = .ok (.aload 5, 2) := by decide +kernel
theorem dX0_linked_47 : decode cX0_linked 47 = .ok (.ifnull 47, 3) := by decide +kernel
theorem dX0_linked_50 : decode cX0_linked 50 = .ok (.aload 5, 2) := by decide +kernel
theorem dX0_linked_52 : decode cX0_linked 52 = .ok (.getfield 23, 3) := by decide +kernel
theorem dX0_linked_55 : decode cX0_linked 55 = .ok (.aload_n 0, 1) := by decide +kernel
theorem dX0_linked_56 : decode cX0_linked 56 = .ok (.invokestatic 30, 3) := by decide +kernel
theorem dX0_linked_59 : decode cX0_linked 59 = .ok (.iconst 1, 1) := by decide +kernel
theorem dX0_linked_60 : decode cX0_linked 60 = .ok (.iadd, 1) := by decide +kernel
theorem dX0_linked_61 : decode cX0_linked 61 = .ok (.if_icmp .le 33, 3) := by decide +kernel
theorem dX0_linked_64 : decode cX0_linked 64 = .ok (.aload_n 0, 1) := by decide +kernel
theorem dX0_linked_65 : decode cX0_linked 65 = .ok (.lload_n 1, 1) := by decide +kernel
theorem dX0_linked_66 : decode cX0_linked 66 = .ok (.lload_n 3, 1) := by decide +kernel
theorem dX0_linked_67 : decode cX0_linked 67 = .ok (.aload 5, 2) := by decide +kernel
theorem dX0_linked_69 : decode cX0_linked 69 = .ok (.getfield 7, 3) := by decide +kernel
theorem dX0_linked_72 : decode cX0_linked 72 = .ok (.invokestatic 34, 3) := by decide +kernel
theorem dX0_linked_75 : decode cX0_linked 75 = .ok (.aload 5, 2) := by decide +kernel
theorem dX0_linked_77 : decode cX0_linked 77 = .ok (.getfield 13, 3) := by decide +kernel
theorem dX0_linked_80 : decode cX0_linked 80 = .ok (.aload 5, 2) := by decide +kernel
theorem dX0_linked_82 : decode cX0_linked 82 = .ok (.getfield 17, 3) := by decide +kernel
theorem dX0_linked_85 : decode cX0_linked 85 = .ok (.aload 5, 2) := by decide +kernel
theorem dX0_linked_87 : decode cX0_linked 87 = .ok (.getfield 20, 3) := by decide +kernel
theorem dX0_linked_90 : decode cX0_linked 90 = .ok (.invokestatic 38, 3) := by decide +kernel
theorem dX0_linked_93 : decode cX0_linked 93 = .ok (.areturn, 1) := by decide +kernel
theorem dX0_linked_94 : decode cX0_linked 94 = .ok (.new 8, 3) := by decide +kernel
theorem dX0_linked_97 : decode cX0_linked 97 = .ok (.dup, 1) := by decide +kernel
theorem dX0_linked_98 : decode cX0_linked 98 = .ok (.aload_n 0, 1) := by decide +kernel
theorem dX0_linked_99 : decode cX0_linked 99 = .ok (.lload_n 1, 1) := by decide +kernel
theorem dX0_linked_100 : decode cX0_linked 100 = .ok (.lload_n 3, 1) := by decide +kernel
theorem dX0_linked_101 : decode cX0_linked 101 = .ok (.aload 5, 2) := by decide +kernel
theorem dX0_linked_103 : decode cX0_linked 103 = .ok (.invokespecial 41, 3) := by decide +kernel
theorem dX0_linked_106 : decode cX0_linked 106 = .ok (.areturn, 1) := by decide +kernel
set_option maxRecDepth 100000 in
set_option maxHeartbeats 4000000 in
theorem c_X0_linked (l : Launch) (D : va_G) (cy : Nat → ClassId) (N0 : Nat) (s : Nat) : ∀ (h : qH) (x : Option Nat) (k v0 : Int64) (y : Option Nat) (i j : Nat) (A B : qKV) (hA : qBr h i x A) (hB : qBr h j y B) (hL : A.length + B.length < 1000000) (hs : i + j < s), qC l D cy N0 yX0_linked cX0_linked 6 (some (.object RX0)) (4 + ((i - j) + (j - i))) (92 + 25 * ((i - j) + (j - i))) (1 + 3 * ((i - j) + (j - i))) (6 + 18 * ((i - j) + (j - i))) [va_rf x, .long k, .long v0, va_rf y] h (fun v h' => ∃ (r9 : Option Nat) (n9 : Nat), v = some (va_rf r9) ∧ qle h h' ∧ qBr h' n9 r9 (A ++ (k, v0) :: B) ∧ i ≤ n9 ∧ j ≤ n9 ∧ (n9 ≤ i + 1 ∨ n9 ≤ j + 1) ∧ (i < n9 ∧ j < n9 ∨ i + 2 ≤ j ∨ j + 2 ≤ i)) (fun E h' => False) := by
  induction s with
  | zero => intro h x k v0 y i j A B hA hB hL hs; exact absurd hs (Nat.not_lt_zero _)
  | succ s ih =>
    intro h x k v0 y i j A B hA hB hL hs
    refine q_ofW (by decide) (by simp [lg_sl, q_catrf, q_cati, q_catl, q_cata, q_catn]) ?_
    intro p e s m below meth c ls C hP hl
    have hx := C.1
    have hb := C.2.1
    have hS : va_S (qA N0) s.heap s.heap [] := va_S.rf
    have hl : lv_has ls 6 [(0, va_rf x), (1, .long k), (3, .long v0), (5, va_rf y)] := by simpa [lv_args, q_catrf, q_cati, q_catl, q_cata, q_catn] using hl
    have hle : qle h h := qle_rf
    have zA := hA.len
    have zB := hB.len
    rcases hA.inv with ⟨rfl, rfl, rfl⟩ | ⟨a1, l1, k1, v1, r1, i1, j1, A1, B1, rfl, f1, hl1, hr1, rfl, hg11, hg12, hg13, hg14, hg15, hg16⟩
    · rcases hB.inv with ⟨rfl, rfl, rfl⟩ | ⟨a2, l2, k2, v2, r2, i2, j2, A2, B2, rfl, f2, hl2, hr2, rfl, hg21, hg22, hg23, hg24, hg25, hg26⟩
      · refine lv_aload_nN hx hb dX0_linked_0 rfl (lv_at hl 0 rfl) ?_
        refine lv_ifnullN (tgt := 45) hx hb dX0_linked_1 (by decide) ?_
        refine lv_aloadN hx hb dX0_linked_45 (lv_at hl 3 rfl) ?_
        refine lv_ifnullN (tgt := 94) hx hb dX0_linked_47 (by decide) ?_
        refine q_new (ci := 0) (fs := [.null, .long 0, .long 0, .null, .int 0, .int 0]) C hP hS rfl inX0 tyX0 tyX0_ok g485 g486 g11 (fun j hj => by rcases (show j = 0 ∨ j = 1 ∨ j = 2 ∨ j = 3 ∨ j = 4 ∨ j = 5 by omega) with rfl | rfl | rfl | rfl | rfl | rfl <;> rfl) (by first | decide | omega) (by first | decide | omega) dX0_linked_94 (fun q94 H eq94 hP hS => ?_)
        obtain ⟨hv1, ehv1⟩ : ∃ z : qH, z = qs h q94 (.inr (0, [.null, .long 0, .long 0, .null, .int 0, .int 0])) := ⟨_, rfl⟩
        rw [← ehv1] at hP
        have khv1 : ∀ b o, b ≠ q94 → h b = some o → hv1 b = some o := by rw [ehv1]; exact fun b o nb hb => (qs_ne nb).trans hb
        have kp : qKp h hv1 := fun b o hb _ => khv1 b o (qne_of eq94 hb) hb
        clear kp
        have oq94 := qle_none hle eq94
        replace hle : qle h hv1 := fun b o hb => khv1 b o (qne_of oq94 hb) (hle b o hb)
        have fq94 : hv1 q94 = some (.inr (0, [.null, .long 0, .long 0, .null, .int 0, .int 0])) := by rw [ehv1]; exact qs_self
        clear ehv1
        refine lv_dup hx hb dX0_linked_97 rfl ?_
        refine lv_aload_nN hx hb dX0_linked_98 rfl (lv_at hl 0 rfl) ?_
        refine lv_lload_n hx hb dX0_linked_99 rfl (lv_at hl 1 rfl) ?_
        refine lv_lload_n hx hb dX0_linked_100 rfl (lv_at hl 2 rfl) ?_
        refine lv_aloadN hx hb dX0_linked_101 (lv_at hl 3 rfl) ?_
        refine q_callI (rest := [.ref q94]) C (c_X0_init l D cy N0 hv1 q94 none k v0 none 0 0 (max 0 0 + 1) ([] : qKV) ([] : qKV) fq94 qBr.nil qBr.nil (by omega) (by omega)) kX0_init g487 g488 rfl hP hS (by first | decide | omega) hl.1 rfl (by simp [q_catrf, q_cati, q_catl, q_cata, q_catn]) (by first | decide | omega) dX0_linked_103 (fun v hh1 H locs hq hP hS => ?_)
        obtain ⟨rfl, rfl⟩ := hq
        replace hP : qP D N0 (qs hv1 q94 (.inr (0, [.null, .long k, .long v0, .null, .int (nI (max 0 0 + 1)), .int (nI (([] : qKV).length + 1 + ([] : qKV).length))]))) H := hP
        obtain ⟨hv2, ehv2⟩ : ∃ z : qH, z = qs hv1 q94 (.inr (0, [.null, .long k, .long v0, .null, .int (nI (max 0 0 + 1)), .int (nI (([] : qKV).length + 1 + ([] : qKV).length))])) := ⟨_, rfl⟩
        rw [← ehv2] at hP
        have khv2 : ∀ b o, b ≠ q94 → hv1 b = some o → hv2 b = some o := by rw [ehv2]; exact fun b o nb hb => (qs_ne nb).trans hb
        have kp : qKp hv1 hv2 := fun b o hb nb => khv2 b o (fun q => by subst q; exact nb (Option.some.inj (hb.symm.trans fq94))) hb
        clear kp
        replace hle : qle h hv2 := fun b o hb => khv2 b o (qne_of oq94 hb) (hle b o hb)
        replace fq94 : hv2 q94 = some (.inr (0, [.null, .long k, .long v0, .null, .int (nI (max 0 0 + 1)), .int (nI (([] : qKV).length + 1 + ([] : qKV).length))])) := by rw [ehv2]; exact qs_self
        clear ehv2
        have bq94 := qBr.mk fq94 qBr.nil qBr.nil ⟨by omega, by omega, by omega, by omega, by omega, by omega⟩
        exact q_aret (v := (some q94)) C (Or.inl ⟨_, rfl⟩) hP hS ⟨(some q94), (max 0 0 + 1), rfl, hle, by simpa using bq94, by omega, by omega, by omega, by omega⟩ (by omega) dX0_linked_106
      · have zl2 := hl2.len
        have zr2 := hr2.len
        have eL2 : (A2 ++ (k2, v2) :: B2).length = A2.length + (B2.length + 1) := by rw [List.length_append, List.length_cons]
        simp only [List.length_append, List.length_cons, List.length_nil] at hL zA zB
        refine lv_aload_nN hx hb dX0_linked_0 rfl (lv_at hl 0 rfl) ?_
        refine lv_ifnullN (tgt := 45) hx hb dX0_linked_1 (by decide) ?_
        refine lv_aload hx hb dX0_linked_45 (lv_at hl 3 rfl) ?_
        refine lv_ifnull hx hb dX0_linked_47 ?_
        refine lv_aload hx hb dX0_linked_50 (lv_at hl 3 rfl) ?_
        refine q_get C hP f2 rfl inX0 4 (by decide) g498 rfl dX0_linked_52 ?_
        refine lv_aload_nN hx hb dX0_linked_55 rfl (lv_at hl 0 rfl) ?_
        refine q_callS (rest := [.int (nI j)]) C (c_X0_heightOf l D cy N0 h none (nI 0) (qBr.nil (h := h)).fiH) kX0_heightOf g475 g476 hP hS (by first | decide | omega) hl.1 rfl (by simp [q_catrf, q_cati, q_catl, q_cata, q_catn]) (by first | decide | omega) dX0_linked_56 (fun q ce E h' H1 locs1 hE => hE.elim) (fun v hh2 H locs hq hP hS => ?_)
        obtain ⟨rfl, rfl⟩ := hq
        refine lv_iconst (v := nI 1) hx hb dX0_linked_59 (by decide) ?_
        refine q_iaddN hx hb dX0_linked_60 ?_
        refine lv_icmp_le (tgt := 94) hx hb dX0_linked_61 (by decide) (fun c61 => ?_) (fun c61 => ?_)
        · replace c61 : j ≤ (0 + 1) := (nI_leI (a := j) (b := (0 + 1)) (by omega) (by omega)).mp c61
          refine q_new (ci := 0) (fs := [.null, .long 0, .long 0, .null, .int 0, .int 0]) C hP hS rfl inX0 tyX0 tyX0_ok g485 g486 g11 (fun j hj => by rcases (show j = 0 ∨ j = 1 ∨ j = 2 ∨ j = 3 ∨ j = 4 ∨ j = 5 by omega) with rfl | rfl | rfl | rfl | rfl | rfl <;> rfl) (by first | decide | omega) (by first | decide | omega) dX0_linked_94 (fun q94 H eq94 hP hS => ?_)
          obtain ⟨hv3, ehv3⟩ : ∃ z : qH, z = qs h q94 (.inr (0, [.null, .long 0, .long 0, .null, .int 0, .int 0])) := ⟨_, rfl⟩
          rw [← ehv3] at hP
          have khv3 : ∀ b o, b ≠ q94 → h b = some o → hv3 b = some o := by rw [ehv3]; exact fun b o nb hb => (qs_ne nb).trans hb
          have kp : qKp h hv3 := fun b o hb _ => khv3 b o (qne_of eq94 hb) hb
          replace hB := hB.kp kp
          replace hl2 := hl2.kp kp
          replace hr2 := hr2.kp kp
          clear kp
          have n_q94_a2 : a2 ≠ q94 := qne_of eq94 f2
          replace f2 := khv3 _ _ n_q94_a2 f2
          have oq94 := qle_none hle eq94
          replace hle : qle h hv3 := fun b o hb => khv3 b o (qne_of oq94 hb) (hle b o hb)
          have fq94 : hv3 q94 = some (.inr (0, [.null, .long 0, .long 0, .null, .int 0, .int 0])) := by rw [ehv3]; exact qs_self
          clear ehv3
          refine lv_dup hx hb dX0_linked_97 rfl ?_
          refine lv_aload_nN hx hb dX0_linked_98 rfl (lv_at hl 0 rfl) ?_
          refine lv_lload_n hx hb dX0_linked_99 rfl (lv_at hl 1 rfl) ?_
          refine lv_lload_n hx hb dX0_linked_100 rfl (lv_at hl 2 rfl) ?_
          refine lv_aload hx hb dX0_linked_101 (lv_at hl 3 rfl) ?_
          refine q_callI (rest := [.ref q94]) C (c_X0_init l D cy N0 hv3 q94 none k v0 (some a2) 0 j (max 0 j + 1) ([] : qKV) (A2 ++ (k2, v2) :: B2) fq94 qBr.nil hB (by omega) (by omega)) kX0_init g487 g488 rfl hP hS (by first | decide | omega) hl.1 rfl (by simp [q_catrf, q_cati, q_catl, q_cata, q_catn]) (by first | decide | omega) dX0_linked_103 (fun v hh3 H locs hq hP hS => ?_)
          obtain ⟨rfl, rfl⟩ := hq
          replace hP : qP D N0 (qs hv3 q94 (.inr (0, [.null, .long k, .long v0, .ref a2, .int (nI (max 0 j + 1)), .int (nI (([] : qKV).length + 1 + (A2 ++ (k2, v2) :: B2).length))]))) H := hP
          obtain ⟨hv4, ehv4⟩ : ∃ z : qH, z = qs hv3 q94 (.inr (0, [.null, .long k, .long v0, .ref a2, .int (nI (max 0 j + 1)), .int (nI (([] : qKV).length + 1 + (A2 ++ (k2, v2) :: B2).length))])) := ⟨_, rfl⟩
          rw [← ehv4] at hP
          have khv4 : ∀ b o, b ≠ q94 → hv3 b = some o → hv4 b = some o := by rw [ehv4]; exact fun b o nb hb => (qs_ne nb).trans hb
          have kp : qKp hv3 hv4 := fun b o hb nb => khv4 b o (fun q => by subst q; exact nb (Option.some.inj (hb.symm.trans fq94))) hb
          replace hB := hB.kp kp
          replace hl2 := hl2.kp kp
          replace hr2 := hr2.kp kp
          clear kp
          replace f2 := khv4 _ _ n_q94_a2 f2
          replace hle : qle h hv4 := fun b o hb => khv4 b o (qne_of oq94 hb) (hle b o hb)
          replace fq94 : hv4 q94 = some (.inr (0, [.null, .long k, .long v0, .ref a2, .int (nI (max 0 j + 1)), .int (nI (([] : qKV).length + 1 + (A2 ++ (k2, v2) :: B2).length))])) := by rw [ehv4]; exact qs_self
          clear ehv4
          have bq94 := qBr.mk fq94 qBr.nil hB ⟨by omega, by omega, by omega, by omega, by omega, by omega⟩
          exact q_aret (v := (some q94)) C (Or.inl ⟨_, rfl⟩) hP hS ⟨(some q94), (max 0 j + 1), rfl, hle, by simpa using bq94, by omega, by omega, by omega, by omega⟩ (by omega) dX0_linked_106
        · replace c61 : ¬ j ≤ (0 + 1) := fun zq => c61 ((nI_leI (a := j) (b := (0 + 1)) (by omega) (by omega)).mpr zq)
          refine lv_aload_nN hx hb dX0_linked_64 rfl (lv_at hl 0 rfl) ?_
          refine lv_lload_n hx hb dX0_linked_65 rfl (lv_at hl 1 rfl) ?_
          refine lv_lload_n hx hb dX0_linked_66 rfl (lv_at hl 2 rfl) ?_
          refine lv_aload hx hb dX0_linked_67 (lv_at hl 3 rfl) ?_
          refine q_get C hP f2 rfl inX0 0 (by decide) g491 rfl dX0_linked_69 ?_
          refine q_callS (rest := []) C (ih h none k v0 l2 0 i2 ([] : qKV) A2 qBr.nil hl2 (by first | omega | (simp only [List.length_append, List.length_cons, List.length_nil, List.length_take, List.length_drop, List.length_set]; omega)) (by omega)) kX0_linked g478 g473 hP hS (by first | decide | omega) hl.1 rfl (by decide) (by first | decide | omega) dX0_linked_72 (fun q ce E h' H1 locs1 hE => hE.elim) (fun v hh4 H locs hq hP hS => ?_)
          obtain ⟨r55, n55, rfl, hl55, b55, y55, w55, u55, m55⟩ := hq
          replace f2 := hl55 _ _ f2
          replace hB := hB.le hl55
          replace hl2 := hl2.le hl55
          replace hr2 := hr2.le hl55
          replace hle := qle_tr hle hl55
          have z55 := b55.len
          try simp only [List.length_append, List.length_cons, List.length_nil] at z55
          refine lv_aload hx hb dX0_linked_75 (lv_at hl 3 rfl) ?_
          refine q_get C hP f2 rfl inX0 1 (by decide) g492 rfl dX0_linked_77 ?_
          refine lv_aload hx hb dX0_linked_80 (lv_at hl 3 rfl) ?_
          refine q_get C hP f2 rfl inX0 2 (by decide) g494 rfl dX0_linked_82 ?_
          refine lv_aload hx hb dX0_linked_85 (lv_at hl 3 rfl) ?_
          refine q_get C hP f2 rfl inX0 3 (by decide) g497 rfl dX0_linked_87 ?_
          refine q_callS (rest := []) C (c_X0_balanced l D cy N0 hh4 r55 k2 v2 r2 n55 j2 (([] : qKV) ++ (k, v0) :: A2) B2 b55 hr2 (by first | omega | (simp only [List.length_append, List.length_cons, List.length_nil, List.length_take, List.length_drop, List.length_set]; omega)) (by omega)) kX0_balanced g479 g480 hP hS (by first | decide | omega) hl.1 rfl (by decide) (by first | decide | omega) dX0_linked_90 (fun q ce E h' H1 locs1 hE => hE.elim) (fun v hh5 H locs hq hP hS => ?_)
          obtain ⟨r56, n56, rfl, hl56, b56, y56, w56, u56, m56⟩ := hq
          replace f2 := hl56 _ _ f2
          replace hB := hB.le hl56
          replace hl2 := hl2.le hl56
          replace hr2 := hr2.le hl56
          replace b55 := b55.le hl56
          replace hle := qle_tr hle hl56
          have z56 := b56.len
          try simp only [List.length_append, List.length_cons, List.length_nil] at z56
          exact q_aret (v := r56) C (Or.inl ⟨_, rfl⟩) hP hS ⟨r56, n56, rfl, hle, by simpa using b56, by omega, by omega, by omega, by omega⟩ (by omega) dX0_linked_93
    · have zl1 := hl1.len
      have zr1 := hr1.len
      have eL1 : (A1 ++ (k1, v1) :: B1).length = A1.length + (B1.length + 1) := by rw [List.length_append, List.length_cons]
      simp only [List.length_append, List.length_cons, List.length_nil] at hL zA zB
      rcases hB.inv with ⟨rfl, rfl, rfl⟩ | ⟨a2, l2, k2, v2, r2, i2, j2, A2, B2, rfl, f2, hl2, hr2, rfl, hg21, hg22, hg23, hg24, hg25, hg26⟩
      · refine lv_aload_n hx hb dX0_linked_0 rfl (lv_at hl 0 rfl) ?_
        refine lv_ifnull hx hb dX0_linked_1 ?_
        refine lv_aload_n hx hb dX0_linked_4 rfl (lv_at hl 0 rfl) ?_
        refine q_get C hP f1 rfl inX0 4 (by decide) g498 rfl dX0_linked_5 ?_
        refine lv_aloadN hx hb dX0_linked_8 (lv_at hl 3 rfl) ?_
        refine q_callS (rest := [.int (nI i)]) C (c_X0_heightOf l D cy N0 h none (nI 0) (qBr.nil (h := h)).fiH) kX0_heightOf g475 g476 hP hS (by first | decide | omega) hl.1 rfl (by simp [q_catrf, q_cati, q_catl, q_cata, q_catn]) (by first | decide | omega) dX0_linked_10 (fun q ce E h' H1 locs1 hE => hE.elim) (fun v hh6 H locs hq hP hS => ?_)
        obtain ⟨rfl, rfl⟩ := hq
        refine lv_iconst (v := nI 1) hx hb dX0_linked_13 (by decide) ?_
        refine q_iaddN hx hb dX0_linked_14 ?_
        refine lv_icmp_le (tgt := 45) hx hb dX0_linked_15 (by decide) (fun c15 => ?_) (fun c15 => ?_)
        · replace c15 : i ≤ (0 + 1) := (nI_leI (a := i) (b := (0 + 1)) (by omega) (by omega)).mp c15
          refine lv_aloadN hx hb dX0_linked_45 (lv_at hl 3 rfl) ?_
          refine lv_ifnullN (tgt := 94) hx hb dX0_linked_47 (by decide) ?_
          refine q_new (ci := 0) (fs := [.null, .long 0, .long 0, .null, .int 0, .int 0]) C hP hS rfl inX0 tyX0 tyX0_ok g485 g486 g11 (fun j hj => by rcases (show j = 0 ∨ j = 1 ∨ j = 2 ∨ j = 3 ∨ j = 4 ∨ j = 5 by omega) with rfl | rfl | rfl | rfl | rfl | rfl <;> rfl) (by first | decide | omega) (by first | decide | omega) dX0_linked_94 (fun q94 H eq94 hP hS => ?_)
          obtain ⟨hv5, ehv5⟩ : ∃ z : qH, z = qs h q94 (.inr (0, [.null, .long 0, .long 0, .null, .int 0, .int 0])) := ⟨_, rfl⟩
          rw [← ehv5] at hP
          have khv5 : ∀ b o, b ≠ q94 → h b = some o → hv5 b = some o := by rw [ehv5]; exact fun b o nb hb => (qs_ne nb).trans hb
          have kp : qKp h hv5 := fun b o hb _ => khv5 b o (qne_of eq94 hb) hb
          replace hA := hA.kp kp
          replace hl1 := hl1.kp kp
          replace hr1 := hr1.kp kp
          clear kp
          have n_q94_a1 : a1 ≠ q94 := qne_of eq94 f1
          replace f1 := khv5 _ _ n_q94_a1 f1
          have oq94 := qle_none hle eq94
          replace hle : qle h hv5 := fun b o hb => khv5 b o (qne_of oq94 hb) (hle b o hb)
          have fq94 : hv5 q94 = some (.inr (0, [.null, .long 0, .long 0, .null, .int 0, .int 0])) := by rw [ehv5]; exact qs_self
          clear ehv5
          refine lv_dup hx hb dX0_linked_97 rfl ?_
          refine lv_aload_n hx hb dX0_linked_98 rfl (lv_at hl 0 rfl) ?_
          refine lv_lload_n hx hb dX0_linked_99 rfl (lv_at hl 1 rfl) ?_
          refine lv_lload_n hx hb dX0_linked_100 rfl (lv_at hl 2 rfl) ?_
          refine lv_aloadN hx hb dX0_linked_101 (lv_at hl 3 rfl) ?_
          refine q_callI (rest := [.ref q94]) C (c_X0_init l D cy N0 hv5 q94 (some a1) k v0 none i 0 (max i 0 + 1) (A1 ++ (k1, v1) :: B1) ([] : qKV) fq94 hA qBr.nil (by omega) (by omega)) kX0_init g487 g488 rfl hP hS (by first | decide | omega) hl.1 rfl (by simp [q_catrf, q_cati, q_catl, q_cata, q_catn]) (by first | decide | omega) dX0_linked_103 (fun v hh7 H locs hq hP hS => ?_)
          obtain ⟨rfl, rfl⟩ := hq
          replace hP : qP D N0 (qs hv5 q94 (.inr (0, [.ref a1, .long k, .long v0, .null, .int (nI (max i 0 + 1)), .int (nI ((A1 ++ (k1, v1) :: B1).length + 1 + ([] : qKV).length))]))) H := hP
          obtain ⟨hv6, ehv6⟩ : ∃ z : qH, z = qs hv5 q94 (.inr (0, [.ref a1, .long k, .long v0, .null, .int (nI (max i 0 + 1)), .int (nI ((A1 ++ (k1, v1) :: B1).length + 1 + ([] : qKV).length))])) := ⟨_, rfl⟩
          rw [← ehv6] at hP
          have khv6 : ∀ b o, b ≠ q94 → hv5 b = some o → hv6 b = some o := by rw [ehv6]; exact fun b o nb hb => (qs_ne nb).trans hb
          have kp : qKp hv5 hv6 := fun b o hb nb => khv6 b o (fun q => by subst q; exact nb (Option.some.inj (hb.symm.trans fq94))) hb
          replace hA := hA.kp kp
          replace hl1 := hl1.kp kp
          replace hr1 := hr1.kp kp
          clear kp
          replace f1 := khv6 _ _ n_q94_a1 f1
          replace hle : qle h hv6 := fun b o hb => khv6 b o (qne_of oq94 hb) (hle b o hb)
          replace fq94 : hv6 q94 = some (.inr (0, [.ref a1, .long k, .long v0, .null, .int (nI (max i 0 + 1)), .int (nI ((A1 ++ (k1, v1) :: B1).length + 1 + ([] : qKV).length))])) := by rw [ehv6]; exact qs_self
          clear ehv6
          have bq94 := qBr.mk fq94 hA qBr.nil ⟨by omega, by omega, by omega, by omega, by omega, by omega⟩
          exact q_aret (v := (some q94)) C (Or.inl ⟨_, rfl⟩) hP hS ⟨(some q94), (max i 0 + 1), rfl, hle, by simpa using bq94, by omega, by omega, by omega, by omega⟩ (by omega) dX0_linked_106
        · replace c15 : ¬ i ≤ (0 + 1) := fun zq => c15 ((nI_leI (a := i) (b := (0 + 1)) (by omega) (by omega)).mpr zq)
          refine lv_aload_n hx hb dX0_linked_18 rfl (lv_at hl 0 rfl) ?_
          refine q_get C hP f1 rfl inX0 0 (by decide) g491 rfl dX0_linked_19 ?_
          refine lv_aload_n hx hb dX0_linked_22 rfl (lv_at hl 0 rfl) ?_
          refine q_get C hP f1 rfl inX0 1 (by decide) g492 rfl dX0_linked_23 ?_
          refine lv_aload_n hx hb dX0_linked_26 rfl (lv_at hl 0 rfl) ?_
          refine q_get C hP f1 rfl inX0 2 (by decide) g494 rfl dX0_linked_27 ?_
          refine lv_aload_n hx hb dX0_linked_30 rfl (lv_at hl 0 rfl) ?_
          refine q_get C hP f1 rfl inX0 3 (by decide) g497 rfl dX0_linked_31 ?_
          refine lv_lload_n hx hb dX0_linked_34 rfl (lv_at hl 1 rfl) ?_
          refine lv_lload_n hx hb dX0_linked_35 rfl (lv_at hl 2 rfl) ?_
          refine lv_aloadN hx hb dX0_linked_36 (lv_at hl 3 rfl) ?_
          refine q_callS (rest := [.long v1, .long k1, va_rf l1]) C (ih h r1 k v0 none j1 0 B1 ([] : qKV) hr1 qBr.nil (by first | omega | (simp only [List.length_append, List.length_cons, List.length_nil, List.length_take, List.length_drop, List.length_set]; omega)) (by omega)) kX0_linked g478 g473 hP hS (by first | decide | omega) hl.1 rfl (by simp [q_catrf, q_cati, q_catl, q_cata, q_catn]) (by first | decide | omega) dX0_linked_38 (fun q ce E h' H1 locs1 hE => hE.elim) (fun v hh8 H locs hq hP hS => ?_)
          obtain ⟨r57, n57, rfl, hl57, b57, y57, w57, u57, m57⟩ := hq
          replace f1 := hl57 _ _ f1
          replace hA := hA.le hl57
          replace hl1 := hl1.le hl57
          replace hr1 := hr1.le hl57
          replace hle := qle_tr hle hl57
          have z57 := b57.len
          try simp only [List.length_append, List.length_cons, List.length_nil] at z57
          refine q_callS (rest := []) C (c_X0_balanced l D cy N0 hh8 l1 k1 v1 r57 i1 n57 A1 (B1 ++ (k, v0) :: ([] : qKV)) hl1 b57 (by first | omega | (simp only [List.length_append, List.length_cons, List.length_nil, List.length_take, List.length_drop, List.length_set]; omega)) (by omega)) kX0_balanced g479 g480 hP hS (by first | decide | omega) hl.1 rfl (by decide) (by first | decide | omega) dX0_linked_41 (fun q ce E h' H1 locs1 hE => hE.elim) (fun v hh9 H locs hq hP hS => ?_)
          obtain ⟨r58, n58, rfl, hl58, b58, y58, w58, u58, m58⟩ := hq
          replace f1 := hl58 _ _ f1
          replace hA := hA.le hl58
          replace hl1 := hl1.le hl58
          replace hr1 := hr1.le hl58
          replace b57 := b57.le hl58
          replace hle := qle_tr hle hl58
          have z58 := b58.len
          try simp only [List.length_append, List.length_cons, List.length_nil] at z58
          exact q_aret (v := r58) C (Or.inl ⟨_, rfl⟩) hP hS ⟨r58, n58, rfl, hle, by simpa using b58, by omega, by omega, by omega, by omega⟩ (by omega) dX0_linked_44
      · have zl2 := hl2.len
        have zr2 := hr2.len
        have eL2 : (A2 ++ (k2, v2) :: B2).length = A2.length + (B2.length + 1) := by rw [List.length_append, List.length_cons]
        simp only [List.length_append, List.length_cons, List.length_nil] at hL zA zB
        refine lv_aload_n hx hb dX0_linked_0 rfl (lv_at hl 0 rfl) ?_
        refine lv_ifnull hx hb dX0_linked_1 ?_
        refine lv_aload_n hx hb dX0_linked_4 rfl (lv_at hl 0 rfl) ?_
        refine q_get C hP f1 rfl inX0 4 (by decide) g498 rfl dX0_linked_5 ?_
        refine lv_aload hx hb dX0_linked_8 (lv_at hl 3 rfl) ?_
        refine q_callS (rest := [.int (nI i)]) C (c_X0_heightOf l D cy N0 h (some a2) (nI j) hB.fiH) kX0_heightOf g475 g476 hP hS (by first | decide | omega) hl.1 rfl (by simp [q_catrf, q_cati, q_catl, q_cata, q_catn]) (by first | decide | omega) dX0_linked_10 (fun q ce E h' H1 locs1 hE => hE.elim) (fun v hh10 H locs hq hP hS => ?_)
        obtain ⟨rfl, rfl⟩ := hq
        refine lv_iconst (v := nI 1) hx hb dX0_linked_13 (by decide) ?_
        refine q_iaddN hx hb dX0_linked_14 ?_
        refine lv_icmp_le (tgt := 45) hx hb dX0_linked_15 (by decide) (fun c15 => ?_) (fun c15 => ?_)
        · replace c15 : i ≤ (j + 1) := (nI_leI (a := i) (b := (j + 1)) (by omega) (by omega)).mp c15
          refine lv_aload hx hb dX0_linked_45 (lv_at hl 3 rfl) ?_
          refine lv_ifnull hx hb dX0_linked_47 ?_
          refine lv_aload hx hb dX0_linked_50 (lv_at hl 3 rfl) ?_
          refine q_get C hP f2 rfl inX0 4 (by decide) g498 rfl dX0_linked_52 ?_
          refine lv_aload_n hx hb dX0_linked_55 rfl (lv_at hl 0 rfl) ?_
          refine q_callS (rest := [.int (nI j)]) C (c_X0_heightOf l D cy N0 h (some a1) (nI i) hA.fiH) kX0_heightOf g475 g476 hP hS (by first | decide | omega) hl.1 rfl (by simp [q_catrf, q_cati, q_catl, q_cata, q_catn]) (by first | decide | omega) dX0_linked_56 (fun q ce E h' H1 locs1 hE => hE.elim) (fun v hh11 H locs hq hP hS => ?_)
          obtain ⟨rfl, rfl⟩ := hq
          refine lv_iconst (v := nI 1) hx hb dX0_linked_59 (by decide) ?_
          refine q_iaddN hx hb dX0_linked_60 ?_
          refine lv_icmp_le (tgt := 94) hx hb dX0_linked_61 (by decide) (fun c61 => ?_) (fun c61 => ?_)
          · replace c61 : j ≤ (i + 1) := (nI_leI (a := j) (b := (i + 1)) (by omega) (by omega)).mp c61
            refine q_new (ci := 0) (fs := [.null, .long 0, .long 0, .null, .int 0, .int 0]) C hP hS rfl inX0 tyX0 tyX0_ok g485 g486 g11 (fun j hj => by rcases (show j = 0 ∨ j = 1 ∨ j = 2 ∨ j = 3 ∨ j = 4 ∨ j = 5 by omega) with rfl | rfl | rfl | rfl | rfl | rfl <;> rfl) (by first | decide | omega) (by first | decide | omega) dX0_linked_94 (fun q94 H eq94 hP hS => ?_)
            obtain ⟨hv7, ehv7⟩ : ∃ z : qH, z = qs h q94 (.inr (0, [.null, .long 0, .long 0, .null, .int 0, .int 0])) := ⟨_, rfl⟩
            rw [← ehv7] at hP
            have khv7 : ∀ b o, b ≠ q94 → h b = some o → hv7 b = some o := by rw [ehv7]; exact fun b o nb hb => (qs_ne nb).trans hb
            have kp : qKp h hv7 := fun b o hb _ => khv7 b o (qne_of eq94 hb) hb
            replace hA := hA.kp kp
            replace hl1 := hl1.kp kp
            replace hr1 := hr1.kp kp
            replace hB := hB.kp kp
            replace hl2 := hl2.kp kp
            replace hr2 := hr2.kp kp
            clear kp
            have n_q94_a1 : a1 ≠ q94 := qne_of eq94 f1
            replace f1 := khv7 _ _ n_q94_a1 f1
            have n_q94_a2 : a2 ≠ q94 := qne_of eq94 f2
            replace f2 := khv7 _ _ n_q94_a2 f2
            have oq94 := qle_none hle eq94
            replace hle : qle h hv7 := fun b o hb => khv7 b o (qne_of oq94 hb) (hle b o hb)
            have fq94 : hv7 q94 = some (.inr (0, [.null, .long 0, .long 0, .null, .int 0, .int 0])) := by rw [ehv7]; exact qs_self
            clear ehv7
            refine lv_dup hx hb dX0_linked_97 rfl ?_
            refine lv_aload_n hx hb dX0_linked_98 rfl (lv_at hl 0 rfl) ?_
            refine lv_lload_n hx hb dX0_linked_99 rfl (lv_at hl 1 rfl) ?_
            refine lv_lload_n hx hb dX0_linked_100 rfl (lv_at hl 2 rfl) ?_
            refine lv_aload hx hb dX0_linked_101 (lv_at hl 3 rfl) ?_
            refine q_callI (rest := [.ref q94]) C (c_X0_init l D cy N0 hv7 q94 (some a1) k v0 (some a2) i j (max i j + 1) (A1 ++ (k1, v1) :: B1) (A2 ++ (k2, v2) :: B2) fq94 hA hB (by omega) (by omega)) kX0_init g487 g488 rfl hP hS (by first | decide | omega) hl.1 rfl (by simp [q_catrf, q_cati, q_catl, q_cata, q_catn]) (by first | decide | omega) dX0_linked_103 (fun v hh12 H locs hq hP hS => ?_)
            obtain ⟨rfl, rfl⟩ := hq
            replace hP : qP D N0 (qs hv7 q94 (.inr (0, [.ref a1, .long k, .long v0, .ref a2, .int (nI (max i j + 1)), .int (nI ((A1 ++ (k1, v1) :: B1).length + 1 + (A2 ++ (k2, v2) :: B2).length))]))) H := hP
            obtain ⟨hv8, ehv8⟩ : ∃ z : qH, z = qs hv7 q94 (.inr (0, [.ref a1, .long k, .long v0, .ref a2, .int (nI (max i j + 1)), .int (nI ((A1 ++ (k1, v1) :: B1).length + 1 + (A2 ++ (k2, v2) :: B2).length))])) := ⟨_, rfl⟩
            rw [← ehv8] at hP
            have khv8 : ∀ b o, b ≠ q94 → hv7 b = some o → hv8 b = some o := by rw [ehv8]; exact fun b o nb hb => (qs_ne nb).trans hb
            have kp : qKp hv7 hv8 := fun b o hb nb => khv8 b o (fun q => by subst q; exact nb (Option.some.inj (hb.symm.trans fq94))) hb
            replace hA := hA.kp kp
            replace hl1 := hl1.kp kp
            replace hr1 := hr1.kp kp
            replace hB := hB.kp kp
            replace hl2 := hl2.kp kp
            replace hr2 := hr2.kp kp
            clear kp
            replace f1 := khv8 _ _ n_q94_a1 f1
            replace f2 := khv8 _ _ n_q94_a2 f2
            replace hle : qle h hv8 := fun b o hb => khv8 b o (qne_of oq94 hb) (hle b o hb)
            replace fq94 : hv8 q94 = some (.inr (0, [.ref a1, .long k, .long v0, .ref a2, .int (nI (max i j + 1)), .int (nI ((A1 ++ (k1, v1) :: B1).length + 1 + (A2 ++ (k2, v2) :: B2).length))])) := by rw [ehv8]; exact qs_self
            clear ehv8
            have bq94 := qBr.mk fq94 hA hB ⟨by omega, by omega, by omega, by omega, by omega, by omega⟩
            exact q_aret (v := (some q94)) C (Or.inl ⟨_, rfl⟩) hP hS ⟨(some q94), (max i j + 1), rfl, hle, by simpa using bq94, by omega, by omega, by omega, by omega⟩ (by omega) dX0_linked_106
          · replace c61 : ¬ j ≤ (i + 1) := fun zq => c61 ((nI_leI (a := j) (b := (i + 1)) (by omega) (by omega)).mpr zq)
            refine lv_aload_n hx hb dX0_linked_64 rfl (lv_at hl 0 rfl) ?_
            refine lv_lload_n hx hb dX0_linked_65 rfl (lv_at hl 1 rfl) ?_
            refine lv_lload_n hx hb dX0_linked_66 rfl (lv_at hl 2 rfl) ?_
            refine lv_aload hx hb dX0_linked_67 (lv_at hl 3 rfl) ?_
            refine q_get C hP f2 rfl inX0 0 (by decide) g491 rfl dX0_linked_69 ?_
            refine q_callS (rest := []) C (ih h (some a1) k v0 l2 i i2 (A1 ++ (k1, v1) :: B1) A2 hA hl2 (by first | omega | (simp only [List.length_append, List.length_cons, List.length_nil, List.length_take, List.length_drop, List.length_set]; omega)) (by omega)) kX0_linked g478 g473 hP hS (by first | decide | omega) hl.1 rfl (by decide) (by first | decide | omega) dX0_linked_72 (fun q ce E h' H1 locs1 hE => hE.elim) (fun v hh13 H locs hq hP hS => ?_)
            obtain ⟨r59, n59, rfl, hl59, b59, y59, w59, u59, m59⟩ := hq
            replace f1 := hl59 _ _ f1
            replace f2 := hl59 _ _ f2
            replace hA := hA.le hl59
            replace hl1 := hl1.le hl59
            replace hr1 := hr1.le hl59
            replace hB := hB.le hl59
            replace hl2 := hl2.le hl59
            replace hr2 := hr2.le hl59
            replace hle := qle_tr hle hl59
            have z59 := b59.len
            try simp only [List.length_append, List.length_cons, List.length_nil] at z59
            refine lv_aload hx hb dX0_linked_75 (lv_at hl 3 rfl) ?_
            refine q_get C hP f2 rfl inX0 1 (by decide) g492 rfl dX0_linked_77 ?_
            refine lv_aload hx hb dX0_linked_80 (lv_at hl 3 rfl) ?_
            refine q_get C hP f2 rfl inX0 2 (by decide) g494 rfl dX0_linked_82 ?_
            refine lv_aload hx hb dX0_linked_85 (lv_at hl 3 rfl) ?_
            refine q_get C hP f2 rfl inX0 3 (by decide) g497 rfl dX0_linked_87 ?_
            refine q_callS (rest := []) C (c_X0_balanced l D cy N0 hh13 r59 k2 v2 r2 n59 j2 ((A1 ++ (k1, v1) :: B1) ++ (k, v0) :: A2) B2 b59 hr2 (by first | omega | (simp only [List.length_append, List.length_cons, List.length_nil, List.length_take, List.length_drop, List.length_set]; omega)) (by omega)) kX0_balanced g479 g480 hP hS (by first | decide | omega) hl.1 rfl (by decide) (by first | decide | omega) dX0_linked_90 (fun q ce E h' H1 locs1 hE => hE.elim) (fun v hh14 H locs hq hP hS => ?_)
            obtain ⟨r60, n60, rfl, hl60, b60, y60, w60, u60, m60⟩ := hq
            replace f1 := hl60 _ _ f1
            replace f2 := hl60 _ _ f2
            replace hA := hA.le hl60
            replace hl1 := hl1.le hl60
            replace hr1 := hr1.le hl60
            replace hB := hB.le hl60
            replace hl2 := hl2.le hl60
            replace hr2 := hr2.le hl60
            replace b59 := b59.le hl60
            replace hle := qle_tr hle hl60
            have z60 := b60.len
            try simp only [List.length_append, List.length_cons, List.length_nil] at z60
            exact q_aret (v := r60) C (Or.inl ⟨_, rfl⟩) hP hS ⟨r60, n60, rfl, hle, by simpa using b60, by omega, by omega, by omega, by omega⟩ (by omega) dX0_linked_93
        · replace c15 : ¬ i ≤ (j + 1) := fun zq => c15 ((nI_leI (a := i) (b := (j + 1)) (by omega) (by omega)).mpr zq)
          refine lv_aload_n hx hb dX0_linked_18 rfl (lv_at hl 0 rfl) ?_
          refine q_get C hP f1 rfl inX0 0 (by decide) g491 rfl dX0_linked_19 ?_
          refine lv_aload_n hx hb dX0_linked_22 rfl (lv_at hl 0 rfl) ?_
          refine q_get C hP f1 rfl inX0 1 (by decide) g492 rfl dX0_linked_23 ?_
          refine lv_aload_n hx hb dX0_linked_26 rfl (lv_at hl 0 rfl) ?_
          refine q_get C hP f1 rfl inX0 2 (by decide) g494 rfl dX0_linked_27 ?_
          refine lv_aload_n hx hb dX0_linked_30 rfl (lv_at hl 0 rfl) ?_
          refine q_get C hP f1 rfl inX0 3 (by decide) g497 rfl dX0_linked_31 ?_
          refine lv_lload_n hx hb dX0_linked_34 rfl (lv_at hl 1 rfl) ?_
          refine lv_lload_n hx hb dX0_linked_35 rfl (lv_at hl 2 rfl) ?_
          refine lv_aload hx hb dX0_linked_36 (lv_at hl 3 rfl) ?_
          refine q_callS (rest := [.long v1, .long k1, va_rf l1]) C (ih h r1 k v0 (some a2) j1 j B1 (A2 ++ (k2, v2) :: B2) hr1 hB (by first | omega | (simp only [List.length_append, List.length_cons, List.length_nil, List.length_take, List.length_drop, List.length_set]; omega)) (by omega)) kX0_linked g478 g473 hP hS (by first | decide | omega) hl.1 rfl (by simp [q_catrf, q_cati, q_catl, q_cata, q_catn]) (by first | decide | omega) dX0_linked_38 (fun q ce E h' H1 locs1 hE => hE.elim) (fun v hh15 H locs hq hP hS => ?_)
          obtain ⟨r61, n61, rfl, hl61, b61, y61, w61, u61, m61⟩ := hq
          replace f1 := hl61 _ _ f1
          replace f2 := hl61 _ _ f2
          replace hA := hA.le hl61
          replace hl1 := hl1.le hl61
          replace hr1 := hr1.le hl61
          replace hB := hB.le hl61
          replace hl2 := hl2.le hl61
          replace hr2 := hr2.le hl61
          replace hle := qle_tr hle hl61
          have z61 := b61.len
          try simp only [List.length_append, List.length_cons, List.length_nil] at z61
          refine q_callS (rest := []) C (c_X0_balanced l D cy N0 hh15 l1 k1 v1 r61 i1 n61 A1 (B1 ++ (k, v0) :: (A2 ++ (k2, v2) :: B2)) hl1 b61 (by first | omega | (simp only [List.length_append, List.length_cons, List.length_nil, List.length_take, List.length_drop, List.length_set]; omega)) (by omega)) kX0_balanced g479 g480 hP hS (by first | decide | omega) hl.1 rfl (by decide) (by first | decide | omega) dX0_linked_41 (fun q ce E h' H1 locs1 hE => hE.elim) (fun v hh16 H locs hq hP hS => ?_)
          obtain ⟨r62, n62, rfl, hl62, b62, y62, w62, u62, m62⟩ := hq
          replace f1 := hl62 _ _ f1
          replace f2 := hl62 _ _ f2
          replace hA := hA.le hl62
          replace hl1 := hl1.le hl62
          replace hr1 := hr1.le hl62
          replace hB := hB.le hl62
          replace hl2 := hl2.le hl62
          replace hr2 := hr2.le hl62
          replace b61 := b61.le hl62
          replace hle := qle_tr hle hl62
          have z62 := b62.len
          try simp only [List.length_append, List.length_cons, List.length_nil] at z62
          exact q_aret (v := r62) C (Or.inl ⟨_, rfl⟩) hP hS ⟨r62, n62, rfl, hle, by simpa using b62, by omega, by omega, by omega, by omega⟩ (by omega) dX0_linked_44
