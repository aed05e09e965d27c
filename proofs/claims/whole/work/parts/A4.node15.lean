/-- the SHAPE -/
def thSh (m : Int32) : Nat → qKV → Nat
  | 0, L => 7 + L.length
  | r + 1, L => (trM m (r + 1) L).foldl (fun s v => 31 * s + thSh m r (thK m (6 - r) v L)) (31 * (31 * 17 + trKb m (r + 1) L) + trNb m (r + 1) L)
def thShJ (m : Int32) (r : Nat) (L : qKV) (j : Nat) : Nat := ((trM m (r + 1) L).take j).foldl (fun s v => 31 * s + thSh m r (thK m (6 - r) v L)) (31 * (31 * 17 + trKb m (r + 1) L) + trNb m (r + 1) L)
theorem thShJ_s {m : Int32} {r : Nat} {L : qKV} {j v : Nat} (h : (trM m (r + 1) L)[j]? = some v) : thShJ m r L (j + 1) = 31 * thShJ m r L j + thSh m r (thK m (6 - r) v L) := by
  unfold thShJ
  rw [List.take_succ, h]
  simp only [Option.toList_some]
  rw [List.foldl_append]
  rfl
theorem thShJ_n {m : Int32} {r : Nat} {L : qKV} {j : Nat} (h : (trM m (r + 1) L).length ≤ j) : thShJ m r L j = thSh m (r + 1) L := by
  unfold thShJ
  rw [List.take_of_length_le h]
  rfl
theorem thSh_nil {m : Int32} : thSh m 7 [] = 31 * (31 * 17 + 0) + 0 := by
  show (trM m 7 []).foldl _ _ = _
  rw [trM_nil, trKb_nil, trNb_nil]
  rfl
theorem dX3_shapeOf_0 : decode cX3_shapeOf 0 = .ok (.aload_n 0, 1) := by decide +kernel
theorem dX3_shapeOf_1 : decode cX3_shapeOf 1 = .ok (.ifnull 21, 3) := by decide +kernel
theorem dX3_shapeOf_4 : decode cX3_shapeOf 4 = .ok (.aload_n 0, 1) := by decide +kernel
theorem dX3_shapeOf_5 : decode cX3_shapeOf 5 = .ok (.getfield 21, 3) := by decide +kernel
theorem dX3_shapeOf_8 : decode cX3_shapeOf 8 = .ok (.bipush 7, 2) := by decide +kernel
theorem dX3_shapeOf_10 : decode cX3_shapeOf 10 = .ok (.if_icmp .ne 12, 3) := by decide +kernel
theorem dX3_shapeOf_13 : decode cX3_shapeOf 13 = .ok (.bipush 7, 2) := by decide +kernel
theorem dX3_shapeOf_15 : decode cX3_shapeOf 15 = .ok (.aload_n 0, 1) := by decide +kernel
theorem dX3_shapeOf_16 : decode cX3_shapeOf 16 = .ok (.getfield 15, 3) := by decide +kernel
theorem dX3_shapeOf_19 : decode cX3_shapeOf 19 = .ok (.arraylength, 1) := by decide +kernel
theorem dX3_shapeOf_20 : decode cX3_shapeOf 20 = .ok (.iadd, 1) := by decide +kernel
theorem dX3_shapeOf_21 : decode cX3_shapeOf 21 = .ok (.ireturn, 1) := by decide +kernel
theorem dX3_shapeOf_22 : decode cX3_shapeOf 22 = .ok (.bipush 17, 2) := by decide +kernel
theorem dX3_shapeOf_24 : decode cX3_shapeOf 24 = .ok (.istore_n 1, 1) := by decide +kernel
theorem dX3_shapeOf_25 : decode cX3_shapeOf 25 = .ok (.bipush 31, 2) := by decide +kernel
theorem dX3_shapeOf_27 : decode cX3_shapeOf 27 = .ok (.iload_n 1, 1) := by decide +kernel
theorem dX3_shapeOf_28 : decode cX3_shapeOf 28 = .ok (.imul, 1) := by decide +kernel
theorem dX3_shapeOf_29 : decode cX3_shapeOf 29 = .ok (.aload_n 0, 1) := by decide +kernel
theorem dX3_shapeOf_30 : decode cX3_shapeOf 30 = .ok (.ifnonnull 7, 3) := by decide +kernel
theorem dX3_shapeOf_37 : decode cX3_shapeOf 37 = .ok (.aload_n 0, 1) := by decide +kernel
theorem dX3_shapeOf_38 : decode cX3_shapeOf 38 = .ok (.getfield 55, 3) := by decide +kernel
theorem dX3_shapeOf_41 : decode cX3_shapeOf 41 = .ok (.iadd, 1) := by decide +kernel
theorem dX3_shapeOf_42 : decode cX3_shapeOf 42 = .ok (.istore_n 1, 1) := by decide +kernel
theorem dX3_shapeOf_43 : decode cX3_shapeOf 43 = .ok (.bipush 31, 2) := by decide +kernel
theorem dX3_shapeOf_45 : decode cX3_shapeOf 45 = .ok (.iload_n 1, 1) := by decide +kernel
theorem dX3_shapeOf_46 : decode cX3_shapeOf 46 = .ok (.imul, 1) := by decide +kernel
theorem dX3_shapeOf_47 : decode cX3_shapeOf 47 = .ok (.aload_n 0, 1) := by decide +kernel
theorem dX3_shapeOf_48 : decode cX3_shapeOf 48 = .ok (.ifnonnull 7, 3) := by decide +kernel
theorem dX3_shapeOf_55 : decode cX3_shapeOf 55 = .ok (.aload_n 0, 1) := by decide +kernel
theorem dX3_shapeOf_56 : decode cX3_shapeOf 56 = .ok (.getfield 45, 3) := by decide +kernel
theorem dX3_shapeOf_59 : decode cX3_shapeOf 59 = .ok (.iadd, 1) := by decide +kernel
theorem dX3_shapeOf_60 : decode cX3_shapeOf 60 = .ok (.istore_n 1, 1) := by decide +kernel
theorem dX3_shapeOf_61 : decode cX3_shapeOf 61 = .ok (.iconst 0, 1) := by decide +kernel
theorem dX3_shapeOf_62 : decode cX3_shapeOf 62 = .ok (.istore_n 2, 1) := by decide +kernel
theorem dX3_shapeOf_63 : decode cX3_shapeOf 63 = .ok (.aload_n 0, 1) := by decide +kernel
theorem dX3_shapeOf_64 : decode cX3_shapeOf 64 = .ok (.ifnull 33, 3) := by decide +kernel
theorem dX3_shapeOf_67 : decode cX3_shapeOf 67 = .ok (.iload_n 2, 1) := by decide +kernel
theorem dX3_shapeOf_68 : decode cX3_shapeOf 68 = .ok (.aload_n 0, 1) := by decide +kernel
theorem dX3_shapeOf_69 : decode cX3_shapeOf 69 = .ok (.getfield 28, 3) := by decide +kernel
theorem dX3_shapeOf_72 : decode cX3_shapeOf 72 = .ok (.arraylength, 1) := by decide +kernel
theorem dX3_shapeOf_73 : decode cX3_shapeOf 73 = .ok (.if_icmp .ge 24, 3) := by decide +kernel
theorem dX3_shapeOf_76 : decode cX3_shapeOf 76 = .ok (.bipush 31, 2) := by decide +kernel
theorem dX3_shapeOf_78 : decode cX3_shapeOf 78 = .ok (.iload_n 1, 1) := by decide +kernel
theorem dX3_shapeOf_79 : decode cX3_shapeOf 79 = .ok (.imul, 1) := by decide +kernel
theorem dX3_shapeOf_80 : decode cX3_shapeOf 80 = .ok (.aload_n 0, 1) := by decide +kernel
theorem dX3_shapeOf_81 : decode cX3_shapeOf 81 = .ok (.getfield 28, 3) := by decide +kernel
theorem dX3_shapeOf_84 : decode cX3_shapeOf 84 = .ok (.iload_n 2, 1) := by decide +kernel
theorem dX3_shapeOf_85 : decode cX3_shapeOf 85 = .ok (.aaload, 1) := by decide +kernel
theorem dX3_shapeOf_86 : decode cX3_shapeOf 86 = .ok (.invokestatic 153, 3) := by decide +kernel
theorem dX3_shapeOf_89 : decode cX3_shapeOf 89 = .ok (.iadd, 1) := by decide +kernel
theorem dX3_shapeOf_90 : decode cX3_shapeOf 90 = .ok (.istore_n 1, 1) := by decide +kernel
theorem dX3_shapeOf_91 : decode cX3_shapeOf 91 = .ok (.iinc 2 1, 3) := by decide +kernel
theorem dX3_shapeOf_94 : decode cX3_shapeOf 94 = .ok (.goto (-31), 3) := by decide +kernel
theorem dX3_shapeOf_97 : decode cX3_shapeOf 97 = .ok (.iload_n 1, 1) := by decide +kernel
theorem dX3_shapeOf_98 : decode cX3_shapeOf 98 = .ok (.ireturn, 1) := by decide +kernel
set_option maxRecDepth 100000 in
set_option maxHeartbeats 4000000 in
theorem c_X3_shapeOf (l : Launch) (D : va_G) (cy : Nat → ClassId) (N0 : Nat) (Im : Nat → Prop) (e9 : Nat) (Ok : Nat → Prop) (m9 : Int32) (s : Nat) : ∀ (h : qH) (r a : Nat) (L : qKV) (X : Nat → Prop) (hT : qTr cy h Im e9 Ok m9 r a L X) (hr : r ≤ 7) (hL : L.length < 1000000) (hs : r < s), qC l D cy N0 yX3_shapeOf cX3_shapeOf 3 (some .int) (1 + r) (40 * r) 0 0 [.ref a] h (fun v h' => v = some (.int (nI (thSh m9 r L))) ∧ h = h') (fun E h' => False) := by
  induction s with
  | zero => intro h r a L X hT hr hL hs; exact absurd hs (Nat.not_lt_zero _)
  | succ s ih =>
    intro h r a L X hT hr hL hs
    refine q_ofW (by decide) (by exact Nat.le_of_ble_eq_true rfl) ?_
    intro p e s m below meth c ls C hP hl
    have hx := C.1
    have hb := C.2.1
    have hS : va_S (qA N0) s.heap s.heap [] := va_S.rf
    have hl : lv_has ls 3 [(0, .ref a)] := hl
    obtain ⟨ow1, ka1, va1, na1, C1, Xs1, hn1, hx1, hk1⟩ := hT.inv
    have f1 := hn1.1
    have fk1 := hn1.2.1
    have fv1 := hn1.2.2.1
    have fn1 := hn1.2.2.2.1
    unfold thNo at f1
    unfold thJ at fk1 fv1
    unfold thA at fn1
    rw [List.length_map] at fk1 fv1
    have hml := trM_len (m := m9) (r := r) (L := L)
    have hkl := trK_len (m := m9) (r := r) (L := L)
    cases r with
    | zero =>
      have hlen : (trK m9 0 L).length = L.length := thO_len
      refine lv_aload_n hx hb dX3_shapeOf_0 rfl (lv_at hl 0 rfl) ?_
      refine lv_ifnull hx hb dX3_shapeOf_1 ?_
      refine lv_aload_n hx hb dX3_shapeOf_4 rfl (lv_at hl 0 rfl) ?_
      refine q_get C hP f1 rfl inX3 0 (by decide) g361 rfl dX3_shapeOf_5 ?_
      refine lv_bipush (v := nI 7) hx hb dX3_shapeOf_8 (by decide) ?_
      refine lv_icmp_ne (tgt := 22) hx hb dX3_shapeOf_10 (by decide) (fun c10 => ?_) (fun c10 => ?_)
      · replace c10 : ¬ (7 - 0) = 7 := fun zq => c10 ((nI_eq (a := (7 - 0)) (b := 7) (by omega) (by omega)).mpr zq)
        exfalso; omega
      · replace c10 : (7 - 0) = 7 := (nI_eq (a := (7 - 0)) (b := 7) (by omega) (by omega)).mp c10
        refine lv_bipush (v := nI 7) hx hb dX3_shapeOf_13 (by decide) ?_
        refine lv_aload_n hx hb dX3_shapeOf_15 rfl (lv_at hl 0 rfl) ?_
        refine q_get C hP f1 rfl inX3 5 (by decide) g366 rfl dX3_shapeOf_16 ?_
        refine q_alen C hP fk1 rfl dX3_shapeOf_19 ?_
        refine q_iaddN hx hb dX3_shapeOf_20 ?_
        exact q_iret C hP hS ⟨by rw [hlen]; rfl, rfl⟩ (by omega) dX3_shapeOf_21
    | succ r =>
      refine lv_aload_n hx hb dX3_shapeOf_0 rfl (lv_at hl 0 rfl) ?_
      refine lv_ifnull hx hb dX3_shapeOf_1 ?_
      refine lv_aload_n hx hb dX3_shapeOf_4 rfl (lv_at hl 0 rfl) ?_
      refine q_get C hP f1 rfl inX3 0 (by decide) g361 rfl dX3_shapeOf_5 ?_
      refine lv_bipush (v := nI 7) hx hb dX3_shapeOf_8 (by decide) ?_
      refine lv_icmp_ne (tgt := 22) hx hb dX3_shapeOf_10 (by decide) (fun c10 => ?_) (fun c10 => ?_)
      · replace c10 : ¬ (7 - (r + 1)) = 7 := fun zq => c10 ((nI_eq (a := (7 - (r + 1))) (b := 7) (by omega) (by omega)).mpr zq)
        refine lv_bipush (v := nI 17) hx hb dX3_shapeOf_22 (by decide) ?_
        refine lv_istore_n (lv' := [(1, .int (nI 17)), (0, .ref a)]) hx hb dX3_shapeOf_24 rfl hl (by decide) rfl (fun ls hl => ?_)
        refine lv_bipush (v := nI 31) hx hb dX3_shapeOf_25 (by decide) ?_
        refine lv_iload_n hx hb dX3_shapeOf_27 rfl (lv_at hl 0 rfl) ?_
        refine q_imulN hx hb dX3_shapeOf_28 ?_
        refine lv_aload_n hx hb dX3_shapeOf_29 rfl (lv_at hl 1 rfl) ?_
        refine lv_ifnonnull (tgt := 37) hx hb dX3_shapeOf_30 (by decide) ?_
        refine lv_aload_n hx hb dX3_shapeOf_37 rfl (lv_at hl 1 rfl) ?_
        refine q_get C hP f1 rfl inX3 2 (by decide) g363 rfl dX3_shapeOf_38 ?_
        refine q_iaddN hx hb dX3_shapeOf_41 ?_
        refine lv_istore_n (lv' := [(1, .int (nI ((31 * 17) + (trKb m9 (r + 1) L)))), (0, .ref a)]) hx hb dX3_shapeOf_42 rfl hl (by decide) rfl (fun ls hl => ?_)
        refine lv_bipush (v := nI 31) hx hb dX3_shapeOf_43 (by decide) ?_
        refine lv_iload_n hx hb dX3_shapeOf_45 rfl (lv_at hl 0 rfl) ?_
        refine q_imulN hx hb dX3_shapeOf_46 ?_
        refine lv_aload_n hx hb dX3_shapeOf_47 rfl (lv_at hl 1 rfl) ?_
        refine lv_ifnonnull (tgt := 55) hx hb dX3_shapeOf_48 (by decide) ?_
        refine lv_aload_n hx hb dX3_shapeOf_55 rfl (lv_at hl 1 rfl) ?_
        refine q_get C hP f1 rfl inX3 3 (by decide) g364 rfl dX3_shapeOf_56 ?_
        refine q_iaddN hx hb dX3_shapeOf_59 ?_
        refine lv_istore_n (lv' := [(1, .int (nI ((31 * ((31 * 17) + (trKb m9 (r + 1) L))) + (trNb m9 (r + 1) L)))), (0, .ref a)]) hx hb dX3_shapeOf_60 rfl hl (by decide) rfl (fun ls hl => ?_)
        refine lv_iconst (v := nI 0) hx hb dX3_shapeOf_61 (by decide) ?_
        refine lv_istore_n (lv' := [(2, .int (nI 0)), (1, .int (nI ((31 * ((31 * 17) + (trKb m9 (r + 1) L))) + (trNb m9 (r + 1) L)))), (0, .ref a)]) hx hb dX3_shapeOf_62 rfl hl (by decide) rfl (fun ls hl => ?_)
        refine (?_ : ∀ (t : Nat) (H : Heap) (locs : List Loc) (ls : Array Slot) (j s9 : Nat), (trM m9 (r + 1) L).length - j < t → lv_has ls 3 [(2, .int (nI j)), (1, .int (nI s9)), (0, .ref a)] → s9 = thShJ m9 r L j → j ≤ (trM m9 (r + 1) L).length → qP D N0 h H → va_S (qA N0) s.heap H locs → W p l e _ s m _ below meth c H locs 0 0 _ (F0 m 63 ls [])) _ _ _ ls 0 _ (Nat.lt_succ_self _) (lv_sub hl [0, 1, 2] rfl) rfl (Nat.zero_le _) hP hS
        clear hl hP hS
        intro t
        induction t with
        | zero => intro H locs ls j s9 ht; exact absurd ht (Nat.not_lt_zero _)
        | succ t ihl =>
          intro H locs ls j s9 ht hl hs9 hj hP hS
          refine lv_aload_n hx hb dX3_shapeOf_63 rfl (lv_at hl 2 rfl) ?_
          refine lv_ifnull hx hb dX3_shapeOf_64 ?_
          refine lv_iload_n hx hb dX3_shapeOf_67 rfl (lv_at hl 0 rfl) ?_
          refine lv_aload_n hx hb dX3_shapeOf_68 rfl (lv_at hl 2 rfl) ?_
          refine q_get C hP f1 rfl inX3 7 (by decide) g369 rfl dX3_shapeOf_69 ?_
          refine q_alen C hP fn1 rfl dX3_shapeOf_72 ?_
          refine lv_icmp_ge (tgt := 97) hx hb dX3_shapeOf_73 (by decide) (fun c73 => ?_) (fun c73 => ?_)
          · replace c73 : ((trM m9 (r + 1) L).length) ≤ j := (nI_leI (a := (trM m9 (r + 1) L).length) (b := j) (by omega) (by omega)).mp c73
            refine lv_iload_n hx hb dX3_shapeOf_97 rfl (lv_at hl 1 rfl) ?_
            exact q_iret C hP hS ⟨by rw [hs9, thShJ_n (by omega)], rfl⟩ (by omega) dX3_shapeOf_98
          · replace c73 : ¬ ((trM m9 (r + 1) L).length) ≤ j := fun zq => c73 ((nI_leI (a := (trM m9 (r + 1) L).length) (b := j) (by omega) (by omega)).mpr zq)
            refine lv_bipush (v := nI 31) hx hb dX3_shapeOf_76 (by decide) ?_
            refine lv_iload_n hx hb dX3_shapeOf_78 rfl (lv_at hl 1 rfl) ?_
            refine q_imulN hx hb dX3_shapeOf_79 ?_
            refine lv_aload_n hx hb dX3_shapeOf_80 rfl (lv_at hl 2 rfl) ?_
            refine q_get C hP f1 rfl inX3 7 (by decide) g369 rfl dX3_shapeOf_81 ?_
            refine lv_iload_n hx hb dX3_shapeOf_84 rfl (lv_at hl 0 rfl) ?_
            refine q_aaldR C hP fn1 rfl (by omega) (by omega) rfl dX3_shapeOf_85 ?_
            have hjl : j < (trM m9 (r + 1) L).length := by omega
            obtain ⟨v9, hv9⟩ : ∃ v, (trM m9 (r + 1) L)[j]? = some v := ⟨_, List.getElem?_eq_getElem hjl⟩
            obtain ⟨r9, er9, t9⟩ := hk1 j v9 hv9
            cases er9
            obtain ⟨owc, kac, vac, nac, Cc, Xsc, hnc, -, -⟩ := t9.inv
            have fc := hnc.1
            unfold thNo at fc
            refine q_callS (rest := [.int (nI (31 * s9))]) C (ih h r (C1 j) (thK m9 (6 - r) v9 L) (Xs1 j) t9 (by omega) (Nat.lt_of_le_of_lt thK_len hL) (by omega)) kX3_shapeOf g899 g897 hP hS (by first | decide | omega) hl.1 rfl (by simp [q_catrf, q_cati, q_catl, q_cata, q_catn]) (by first | decide | omega) dX3_shapeOf_86 (fun q ce E h' H1 locs1 hE => hE.elim) (fun v hh1 H locs hq hP hS => ?_)
            obtain ⟨rfl, rfl⟩ := hq
            refine q_iaddN hx hb dX3_shapeOf_89 ?_
            refine lv_istore_n (lv' := [(1, .int (nI ((31 * s9) + (thSh m9 r (thK m9 (6 - r) v9 L))))), (2, .int (nI j)), (0, .ref a)]) hx hb dX3_shapeOf_90 rfl hl (by decide) rfl (fun ls hl => ?_)
            refine lv_iinc (v := nI (j + 1)) (lv' := [(2, .int (nI (j + 1))), (1, .int (nI ((31 * s9) + (thSh m9 r (thK m9 (6 - r) v9 L))))), (0, .ref a)]) hx hb dX3_shapeOf_91 hl (k := 1) rfl (nI_1 j) (by decide) rfl (fun ls hl => ?_)
            refine lv_goto (tgt := 63) hx hb dX3_shapeOf_94 (by decide) ?_
            exact ihl H locs ls (j + 1) _ (by omega) (lv_sub hl [0, 1, 2] rfl) (by rw [thShJ_s hv9, hs9]) (by omega) hP hS
      · replace c10 : (7 - (r + 1)) = 7 := (nI_eq (a := (7 - (r + 1))) (b := 7) (by omega) (by omega)).mp c10
        exfalso; omega
theorem dX3_shapeOf_33 : decode cX3_shapeOf 33 = .ok (.iconst 0, 1) := by decide +kernel
theorem dX3_shapeOf_34 : decode cX3_shapeOf 34 = .ok (.goto 7, 3) := by decide +kernel
theorem dX3_shapeOf_51 : decode cX3_shapeOf 51 = .ok (.iconst 0, 1) := by decide +kernel
theorem dX3_shapeOf_52 : decode cX3_shapeOf 52 = .ok (.goto 7, 3) := by decide +kernel
set_option maxRecDepth 100000 in
set_option maxHeartbeats 4000000 in
theorem c_X3_shapeOfN (l : Launch) (D : va_G) (cy : Nat → ClassId) (N0 : Nat) (h : qH) (m9 : Int32) : qC l D cy N0 yX3_shapeOf cX3_shapeOf 3 (some .int) 0 0 0 0 [.null] h (fun v h' => v = some (.int (nI (thSh m9 7 []))) ∧ h = h') (fun E h' => False) := by
  refine q_ofW (by decide) (by exact Nat.le_of_ble_eq_true rfl) ?_
  intro p e s m below meth c ls C hP hl
  have hx := C.1
  have hb := C.2.1
  have hS : va_S (qA N0) s.heap s.heap [] := va_S.rf
  have hl : lv_has ls 3 [(0, .null)] := hl
  refine lv_aload_nN hx hb dX3_shapeOf_0 rfl (lv_at hl 0 rfl) ?_
  refine lv_ifnullN (tgt := 22) hx hb dX3_shapeOf_1 (by decide) ?_
  refine lv_bipush (v := nI 17) hx hb dX3_shapeOf_22 (by decide) ?_
  refine lv_istore_n (lv' := [(1, .int (nI 17)), (0, .null)]) hx hb dX3_shapeOf_24 rfl hl (by decide) rfl (fun ls hl => ?_)
  refine lv_bipush (v := nI 31) hx hb dX3_shapeOf_25 (by decide) ?_
  refine lv_iload_n hx hb dX3_shapeOf_27 rfl (lv_at hl 0 rfl) ?_
  refine q_imulN hx hb dX3_shapeOf_28 ?_
  refine lv_aload_nN hx hb dX3_shapeOf_29 rfl (lv_at hl 1 rfl) ?_
  refine lv_ifnonnullN hx hb dX3_shapeOf_30 ?_
  refine lv_iconst (v := nI 0) hx hb dX3_shapeOf_33 (by decide) ?_
  refine lv_goto (tgt := 41) hx hb dX3_shapeOf_34 (by decide) ?_
  refine q_iaddN hx hb dX3_shapeOf_41 ?_
  refine lv_istore_n (lv' := [(1, .int (nI ((31 * 17) + 0))), (0, .null)]) hx hb dX3_shapeOf_42 rfl hl (by decide) rfl (fun ls hl => ?_)
  refine lv_bipush (v := nI 31) hx hb dX3_shapeOf_43 (by decide) ?_
  refine lv_iload_n hx hb dX3_shapeOf_45 rfl (lv_at hl 0 rfl) ?_
  refine q_imulN hx hb dX3_shapeOf_46 ?_
  refine lv_aload_nN hx hb dX3_shapeOf_47 rfl (lv_at hl 1 rfl) ?_
  refine lv_ifnonnullN hx hb dX3_shapeOf_48 ?_
  refine lv_iconst (v := nI 0) hx hb dX3_shapeOf_51 (by decide) ?_
  refine lv_goto (tgt := 59) hx hb dX3_shapeOf_52 (by decide) ?_
  refine q_iaddN hx hb dX3_shapeOf_59 ?_
  refine lv_istore_n (lv' := [(1, .int (nI ((31 * ((31 * 17) + 0)) + 0))), (0, .null)]) hx hb dX3_shapeOf_60 rfl hl (by decide) rfl (fun ls hl => ?_)
  refine lv_iconst (v := nI 0) hx hb dX3_shapeOf_61 (by decide) ?_
  refine lv_istore_n (lv' := [(2, .int (nI 0)), (1, .int (nI ((31 * ((31 * 17) + 0)) + 0))), (0, .null)]) hx hb dX3_shapeOf_62 rfl hl (by decide) rfl (fun ls hl => ?_)
  refine lv_aload_nN hx hb dX3_shapeOf_63 rfl (lv_at hl 2 rfl) ?_
  refine lv_ifnullN (tgt := 97) hx hb dX3_shapeOf_64 (by decide) ?_
  refine lv_iload_n hx hb dX3_shapeOf_97 rfl (lv_at hl 1 rfl) ?_
  exact q_iret C hP hS ⟨by rw [thSh_nil], rfl⟩ (by omega) dX3_shapeOf_98
theorem getD_eq {A B : List Int64} (hl : A.length = B.length) (h : ∀ q, q < A.length → A.getD q 0 = B.getD q 0) : A = B := by
  refine List.ext_getElem hl fun i h1 h2 => ?_
  have := h i h1
  rw [List.getD_eq_getElem?_getD, List.getD_eq_getElem?_getD, List.getElem?_eq_getElem h1, List.getElem?_eq_getElem h2] at this
  exact this
theorem dX3_alikeRows_0 : decode cX3_alikeRows 0 = .ok (.aload_n 0, 1) := by decide +kernel
theorem dX3_alikeRows_1 : decode cX3_alikeRows 1 = .ok (.arraylength, 1) := by decide +kernel
theorem dX3_alikeRows_2 : decode cX3_alikeRows 2 = .ok (.aload_n 1, 1) := by decide +kernel
theorem dX3_alikeRows_3 : decode cX3_alikeRows 3 = .ok (.arraylength, 1) := by decide +kernel
theorem dX3_alikeRows_4 : decode cX3_alikeRows 4 = .ok (.if_icmp .eq 5, 3) := by decide +kernel
theorem dX3_alikeRows_7 : decode cX3_alikeRows 7 = .ok (.iconst 0, 1) := by decide +kernel
theorem dX3_alikeRows_8 : decode cX3_alikeRows 8 = .ok (.ireturn, 1) := by decide +kernel
theorem dX3_alikeRows_9 : decode cX3_alikeRows 9 = .ok (.iconst 0, 1) := by decide +kernel
theorem dX3_alikeRows_10 : decode cX3_alikeRows 10 = .ok (.istore_n 2, 1) := by decide +kernel
theorem dX3_alikeRows_11 : decode cX3_alikeRows 11 = .ok (.iload_n 2, 1) := by decide +kernel
theorem dX3_alikeRows_12 : decode cX3_alikeRows 12 = .ok (.aload_n 0, 1) := by decide +kernel
theorem dX3_alikeRows_13 : decode cX3_alikeRows 13 = .ok (.arraylength, 1) := by decide +kernel
theorem dX3_alikeRows_14 : decode cX3_alikeRows 14 = .ok (.if_icmp .ge 21, 3) := by decide +kernel
theorem dX3_alikeRows_17 : decode cX3_alikeRows 17 = .ok (.aload_n 0, 1) := by decide +kernel
theorem dX3_alikeRows_18 : decode cX3_alikeRows 18 = .ok (.iload_n 2, 1) := by decide +kernel
theorem dX3_alikeRows_19 : decode cX3_alikeRows 19 = .ok (.laload, 1) := by decide +kernel
theorem dX3_alikeRows_20 : decode cX3_alikeRows 20 = .ok (.aload_n 1, 1) := by decide +kernel
theorem dX3_alikeRows_21 : decode cX3_alikeRows 21 = .ok (.iload_n 2, 1) := by decide +kernel
theorem dX3_alikeRows_22 : decode cX3_alikeRows 22 = .ok (.laload, 1) := by decide +kernel
theorem dX3_alikeRows_23 : decode cX3_alikeRows 23 = .ok (.lcmp, 1) := by decide +kernel
theorem dX3_alikeRows_24 : decode cX3_alikeRows 24 = .ok (.ifCond .eq 5, 3) := by decide +kernel
theorem dX3_alikeRows_27 : decode cX3_alikeRows 27 = .ok (.iconst 0, 1) := by decide +kernel
theorem dX3_alikeRows_28 : decode cX3_alikeRows 28 = .ok (.ireturn, 1) := by decide +kernel
theorem dX3_alikeRows_29 : decode cX3_alikeRows 29 = .ok (.iinc 2 1, 3) := by decide +kernel
theorem dX3_alikeRows_32 : decode cX3_alikeRows 32 = .ok (.goto (-21), 3) := by decide +kernel
theorem dX3_alikeRows_35 : decode cX3_alikeRows 35 = .ok (.iconst 1, 1) := by decide +kernel
theorem dX3_alikeRows_36 : decode cX3_alikeRows 36 = .ok (.ireturn, 1) := by decide +kernel
set_option maxRecDepth 100000 in
set_option maxHeartbeats 4000000 in
theorem c_X3_alikeRows (l : Launch) (D : va_G) (cy : Nat → ClassId) (N0 : Nat) (h : qH) (a b : Nat) (KA KB : List Int64) (ha : h a = some (thJ cy KA)) (hb9 : h b = some (thJ cy KB)) (hA : KA.length < 1000000) (hB : KB.length < 1000000) : qC l D cy N0 yX3_alikeRows cX3_alikeRows 3 (some .boolean) 0 0 0 0 [.ref a, .ref b] h (fun v h' => h = h' ∧ ((v = some (.int (nI 1)) ∧ KA = KB) ∨ (v = some (.int (nI 0)) ∧ ¬ KA = KB))) (fun E h' => False) := by
  refine q_ofW (by decide) (by exact Nat.le_of_ble_eq_true rfl) ?_
  intro p e s m below meth c ls C hP hl
  have hx := C.1
  have hb := C.2.1
  have hS : va_S (qA N0) s.heap s.heap [] := va_S.rf
  have hl : lv_has ls 3 [(0, .ref a), (1, .ref b)] := hl
  unfold thJ at ha hb9
  refine lv_aload_n hx hb dX3_alikeRows_0 rfl (lv_at hl 0 rfl) ?_
  refine q_alen C hP ha rfl dX3_alikeRows_1 ?_
  refine lv_aload_n hx hb dX3_alikeRows_2 rfl (lv_at hl 1 rfl) ?_
  refine q_alen C hP hb9 rfl dX3_alikeRows_3 ?_
  refine lv_icmp_eq (tgt := 9) hx hb dX3_alikeRows_4 (by decide) (fun c4 => ?_) (fun c4 => ?_)
  · replace c4 : (KA.length) = (KB.length) := (nI_eq (a := KA.length) (b := KB.length) (by omega) (by omega)).mp c4
    refine lv_iconst (v := nI 0) hx hb dX3_alikeRows_9 (by decide) ?_
    refine lv_istore_n (lv' := [(2, .int (nI 0)), (0, .ref a), (1, .ref b)]) hx hb dX3_alikeRows_10 rfl hl (by decide) rfl (fun ls hl => ?_)
    refine (?_ : ∀ (t : Nat) (H : Heap) (locs : List Loc) (ls : Array Slot) (j : Nat), KA.length - j < t → lv_has ls 3 [(2, .int (nI j)), (0, .ref a), (1, .ref b)] → j ≤ KA.length → (∀ q, q < j → KA.getD q 0 = KB.getD q 0) → qP D N0 h H → va_S (qA N0) s.heap H locs → W p l e _ s m _ below meth c H locs 0 0 _ (F0 m 11 ls [])) _ _ _ ls 0 (Nat.lt_succ_self _) (lv_sub hl [0, 1, 2] rfl) (Nat.zero_le _) (fun q hq => absurd hq (Nat.not_lt_zero _)) hP hS
    clear hl hP hS
    intro t
    induction t with
    | zero => intro H locs ls j ht; exact absurd ht (Nat.not_lt_zero _)
    | succ t ihl =>
      intro H locs ls j ht hl hj kk hP hS
      refine lv_iload_n hx hb dX3_alikeRows_11 rfl (lv_at hl 0 rfl) ?_
      refine lv_aload_n hx hb dX3_alikeRows_12 rfl (lv_at hl 1 rfl) ?_
      refine q_alen C hP ha rfl dX3_alikeRows_13 ?_
      refine lv_icmp_ge (tgt := 35) hx hb dX3_alikeRows_14 (by decide) (fun c14 => ?_) (fun c14 => ?_)
      · replace c14 : (KA.length) ≤ j := (nI_leI (a := KA.length) (b := j) (by omega) (by omega)).mp c14
        refine lv_iconst (v := nI 1) hx hb dX3_alikeRows_35 (by decide) ?_
        exact q_zret C hP hS (Or.inr rfl) ⟨rfl, Or.inl ⟨rfl, getD_eq c4 (fun q hq => kk q (by omega))⟩⟩ (by omega) dX3_alikeRows_36
      · replace c14 : ¬ (KA.length) ≤ j := fun zq => c14 ((nI_leI (a := KA.length) (b := j) (by omega) (by omega)).mpr zq)
        refine lv_aload_n hx hb dX3_alikeRows_17 rfl (lv_at hl 1 rfl) ?_
        refine lv_iload_n hx hb dX3_alikeRows_18 rfl (lv_at hl 0 rfl) ?_
        refine q_laldN C hP ha (by omega) (by omega) dX3_alikeRows_19 ?_
        refine lv_aload_n hx hb dX3_alikeRows_20 rfl (lv_at hl 2 rfl) ?_
        refine lv_iload_n hx hb dX3_alikeRows_21 rfl (lv_at hl 0 rfl) ?_
        refine q_laldN C hP hb9 (by omega) (by omega) dX3_alikeRows_22 ?_
        refine W.lcmp hx hb dX3_alikeRows_23 ?_
        refine lv_if_eq (tgt := 29) hx hb dX3_alikeRows_24 (by decide) (fun c24 => ?_) (fun c24 => ?_)
        · replace c24 : (KA.getD j 0).toInt = (KB.getD j 0).toInt := Int64.toInt_inj.symm.mp ((lg_cmp_eq _ _).mp c24)
          refine lv_iinc (v := nI (j + 1)) (lv' := [(2, .int (nI (j + 1))), (0, .ref a), (1, .ref b)]) hx hb dX3_alikeRows_29 hl (k := 0) rfl (nI_1 j) (by decide) rfl (fun ls hl => ?_)
          refine lv_goto (tgt := 11) hx hb dX3_alikeRows_32 (by decide) ?_
          exact ihl H locs ls (j + 1) (by omega) (lv_sub hl [0, 1, 2] rfl) (by omega) (fun q hq => if e : q = j then by (subst e; exact Int64.toInt_inj.mp c24) else kk q (by omega)) hP hS
        · replace c24 : ¬ (KA.getD j 0).toInt = (KB.getD j 0).toInt := fun zq => c24 ((lg_cmp_eq _ _).mpr (Int64.toInt_inj.symm.mpr zq))
          refine lv_iconst (v := nI 0) hx hb dX3_alikeRows_27 (by decide) ?_
          exact q_zret C hP hS (Or.inl rfl) ⟨rfl, Or.inr ⟨rfl, fun z => c24 (by rw [z])⟩⟩ (by omega) dX3_alikeRows_28
  · replace c4 : ¬ (KA.length) = (KB.length) := fun zq => c4 ((nI_eq (a := KA.length) (b := KB.length) (by omega) (by omega)).mpr zq)
    refine lv_iconst (v := nI 0) hx hb dX3_alikeRows_7 (by decide) ?_
    exact q_zret C hP hS (Or.inl rfl) ⟨rfl, Or.inr ⟨rfl, fun z => c4 (by rw [z])⟩⟩ (by omega) dX3_alikeRows_8
theorem th_fm {f : Nat → qKV} {M : List Nat} {j p v : Nat} {y : Int64 × Int64} (h : ((M.drop j).flatMap f)[p]? = some y) (hv : M[j]? = some v) : (p < (f v).length → (f v)[p]? = some y) ∧ ((f v).length ≤ p → ((M.drop (j + 1)).flatMap f)[p - (f v).length]? = some y) := by
  obtain ⟨hl, e⟩ := List.getElem?_eq_some_iff.mp hv
  rw [List.drop_eq_getElem_cons hl, e, List.flatMap_cons] at h
  refine ⟨fun c => ?_, fun c => ?_⟩
  · rw [List.getElem?_append_left c] at h; exact h
  · rw [List.getElem?_append_right c] at h; exact h
theorem dX3_keyAt_0 : decode cX3_keyAt 0 = .ok (.aload_n 0, 1) := by decide +kernel
theorem dX3_keyAt_1 : decode cX3_keyAt 1 = .ok (.astore_n 2, 1) := by decide +kernel
theorem dX3_keyAt_2 : decode cX3_keyAt 2 = .ok (.iload_n 1, 1) := by decide +kernel
theorem dX3_keyAt_3 : decode cX3_keyAt 3 = .ok (.istore_n 3, 1) := by decide +kernel
theorem dX3_keyAt_4 : decode cX3_keyAt 4 = .ok (.aload_n 2, 1) := by decide +kernel
theorem dX3_keyAt_5 : decode cX3_keyAt 5 = .ok (.ifnull 91, 3) := by decide +kernel
theorem dX3_keyAt_8 : decode cX3_keyAt 8 = .ok (.iload_n 3, 1) := by decide +kernel
theorem dX3_keyAt_9 : decode cX3_keyAt 9 = .ok (.aload_n 2, 1) := by decide +kernel
theorem dX3_keyAt_10 : decode cX3_keyAt 10 = .ok (.getfield 15, 3) := by decide +kernel
theorem dX3_keyAt_13 : decode cX3_keyAt 13 = .ok (.arraylength, 1) := by decide +kernel
theorem dX3_keyAt_14 : decode cX3_keyAt 14 = .ok (.if_icmp .lt 82, 3) := by decide +kernel
theorem dX3_keyAt_17 : decode cX3_keyAt 17 = .ok (.iload_n 3, 1) := by decide +kernel
theorem dX3_keyAt_18 : decode cX3_keyAt 18 = .ok (.aload_n 2, 1) := by decide +kernel
theorem dX3_keyAt_19 : decode cX3_keyAt 19 = .ok (.getfield 15, 3) := by decide +kernel
theorem dX3_keyAt_22 : decode cX3_keyAt 22 = .ok (.arraylength, 1) := by decide +kernel
theorem dX3_keyAt_23 : decode cX3_keyAt 23 = .ok (.isub, 1) := by decide +kernel
theorem dX3_keyAt_24 : decode cX3_keyAt 24 = .ok (.istore_n 3, 1) := by decide +kernel
theorem dX3_keyAt_25 : decode cX3_keyAt 25 = .ok (.iconst 0, 1) := by decide +kernel
theorem dX3_keyAt_26 : decode cX3_keyAt 26 = .ok (.istore 4, 2) := by decide +kernel
theorem dX3_keyAt_28 : decode cX3_keyAt 28 = .ok (.iload 4, 2) := by decide +kernel
theorem dX3_keyAt_30 : decode cX3_keyAt 30 = .ok (.aload_n 2, 1) := by decide +kernel
theorem dX3_keyAt_31 : decode cX3_keyAt 31 = .ok (.getfield 28, 3) := by decide +kernel
theorem dX3_keyAt_34 : decode cX3_keyAt 34 = .ok (.arraylength, 1) := by decide +kernel
theorem dX3_keyAt_35 : decode cX3_keyAt 35 = .ok (.if_icmp .ge 36, 3) := by decide +kernel
theorem dX3_keyAt_38 : decode cX3_keyAt 38 = .ok (.iload_n 3, 1) := by decide +kernel
theorem dX3_keyAt_39 : decode cX3_keyAt 39 = .ok (.aload_n 2, 1) := by decide +kernel
theorem dX3_keyAt_40 : decode cX3_keyAt 40 = .ok (.getfield 28, 3) := by decide +kernel
theorem dX3_keyAt_43 : decode cX3_keyAt 43 = .ok (.iload 4, 2) := by decide +kernel
theorem dX3_keyAt_45 : decode cX3_keyAt 45 = .ok (.aaload, 1) := by decide +kernel
theorem dX3_keyAt_46 : decode cX3_keyAt 46 = .ok (.getfield 32, 3) := by decide +kernel
theorem dX3_keyAt_49 : decode cX3_keyAt 49 = .ok (.if_icmp .lt 22, 3) := by decide +kernel
theorem dX3_keyAt_52 : decode cX3_keyAt 52 = .ok (.iload_n 3, 1) := by decide +kernel
theorem dX3_keyAt_53 : decode cX3_keyAt 53 = .ok (.aload_n 2, 1) := by decide +kernel
theorem dX3_keyAt_54 : decode cX3_keyAt 54 = .ok (.getfield 28, 3) := by decide +kernel
theorem dX3_keyAt_57 : decode cX3_keyAt 57 = .ok (.iload 4, 2) := by decide +kernel
theorem dX3_keyAt_59 : decode cX3_keyAt 59 = .ok (.aaload, 1) := by decide +kernel
theorem dX3_keyAt_60 : decode cX3_keyAt 60 = .ok (.getfield 32, 3) := by decide +kernel
theorem dX3_keyAt_63 : decode cX3_keyAt 63 = .ok (.isub, 1) := by decide +kernel
theorem dX3_keyAt_64 : decode cX3_keyAt 64 = .ok (.istore_n 3, 1) := by decide +kernel
theorem dX3_keyAt_65 : decode cX3_keyAt 65 = .ok (.iinc 4 1, 3) := by decide +kernel
theorem dX3_keyAt_68 : decode cX3_keyAt 68 = .ok (.goto (-40), 3) := by decide +kernel
theorem dX3_keyAt_71 : decode cX3_keyAt 71 = .ok (.iload 4, 2) := by decide +kernel
theorem dX3_keyAt_73 : decode cX3_keyAt 73 = .ok (.aload_n 2, 1) := by decide +kernel
theorem dX3_keyAt_74 : decode cX3_keyAt 74 = .ok (.getfield 28, 3) := by decide +kernel
theorem dX3_keyAt_77 : decode cX3_keyAt 77 = .ok (.arraylength, 1) := by decide +kernel
theorem dX3_keyAt_78 : decode cX3_keyAt 78 = .ok (.if_icmp .ge 13, 3) := by decide +kernel
theorem dX3_keyAt_81 : decode cX3_keyAt 81 = .ok (.aload_n 2, 1) := by decide +kernel
theorem dX3_keyAt_82 : decode cX3_keyAt 82 = .ok (.getfield 28, 3) := by decide +kernel
theorem dX3_keyAt_85 : decode cX3_keyAt 85 = .ok (.iload 4, 2) := by decide +kernel
theorem dX3_keyAt_87 : decode cX3_keyAt 87 = .ok (.aaload, 1) := by decide +kernel
theorem dX3_keyAt_88 : decode cX3_keyAt 88 = .ok (.goto 4, 3) := by decide +kernel
theorem dX3_keyAt_92 : decode cX3_keyAt 92 = .ok (.astore_n 2, 1) := by decide +kernel
theorem dX3_keyAt_93 : decode cX3_keyAt 93 = .ok (.goto (-89), 3) := by decide +kernel
theorem dX3_keyAt_96 : decode cX3_keyAt 96 = .ok (.aload_n 2, 1) := by decide +kernel
theorem dX3_keyAt_97 : decode cX3_keyAt 97 = .ok (.ifnull 7, 3) := by decide +kernel
theorem dX3_keyAt_100 : decode cX3_keyAt 100 = .ok (.iload_n 3, 1) := by decide +kernel
theorem dX3_keyAt_101 : decode cX3_keyAt 101 = .ok (.ifCond .ge 7, 3) := by decide +kernel
theorem dX3_keyAt_108 : decode cX3_keyAt 108 = .ok (.aload_n 2, 1) := by decide +kernel
theorem dX3_keyAt_109 : decode cX3_keyAt 109 = .ok (.getfield 15, 3) := by decide +kernel
theorem dX3_keyAt_112 : decode cX3_keyAt 112 = .ok (.iload_n 3, 1) := by decide +kernel
theorem dX3_keyAt_113 : decode cX3_keyAt 113 = .ok (.laload, 1) := by decide +kernel
theorem dX3_keyAt_114 : decode cX3_keyAt 114 = .ok (.lreturn, 1) := by decide +kernel
set_option maxRecDepth 100000 in
set_option maxHeartbeats 4000000 in
theorem c_X3_keyAt (l : Launch) (D : va_G) (cy : Nat → ClassId) (N0 : Nat) (h : qH) (Im : Nat → Prop) (e9 : Nat) (Ok : Nat → Prop) (m9 : Int32) (a i9 : Nat) (L : qKV) (X : Nat → Prop) (y9 : Int64 × Int64) (hT : qTr cy h Im e9 Ok m9 7 a L X) (hL : L.length < 1000000) (hy9 : (thT m9 7 L)[i9]? = some y9) : qC l D cy N0 yX3_keyAt cX3_keyAt 5 (some .long) 0 0 0 0 [.ref a, .int (nI i9)] h (fun v h' => v = some (.long y9.1) ∧ h = h') (fun E h' => False) := by
  refine q_ofW (by decide) (by exact Nat.le_of_ble_eq_true rfl) ?_
  intro p e s m below meth c ls C hP hl
  have hx := C.1
  have hb := C.2.1
  have hS : va_S (qA N0) s.heap s.heap [] := va_S.rf
  have hl : lv_has ls 5 [(0, .ref a), (1, .int (nI i9))] := hl
  refine lv_aload_n hx hb dX3_keyAt_0 rfl (lv_at hl 0 rfl) ?_
  refine lv_astore_n (lv' := [(2, .ref a), (0, .ref a), (1, .int (nI i9))]) hx hb dX3_keyAt_1 rfl hl (by decide) rfl (fun ls hl => ?_)
  refine lv_iload_n hx hb dX3_keyAt_2 rfl (lv_at hl 2 rfl) ?_
  refine lv_istore_n (lv' := [(3, .int (nI i9)), (2, .ref a), (0, .ref a), (1, .int (nI i9))]) hx hb dX3_keyAt_3 rfl hl (by decide) rfl (fun ls hl => ?_)
  refine (?_ : ∀ (t : Nat) (H : Heap) (locs : List Loc) (ls : Array Slot) (a1 r1 p1 : Nat) (L1 : qKV) (X1 : Nat → Prop), r1 < t → qTr cy h Im e9 Ok m9 r1 a1 L1 X1 → r1 ≤ 7 → L1.length < 1000000 → (thT m9 r1 L1)[p1]? = some y9 → lv_has ls 5 [(3, .int (nI p1)), (2, .ref a1)] → qP D N0 h H → va_S (qA N0) s.heap H locs → W p l e _ s m _ below meth c H locs 0 0 _ (F0 m 4 ls [])) _ _ _ ls a 7 i9 L X (Nat.lt_succ_self _) hT (by omega) hL hy9 (lv_sub hl [0, 1] rfl) hP hS
  clear hl hP hS
  intro t
  induction t with
  | zero => intro H locs ls a1 r1 p1 L1 X1 ht; exact absurd ht (Nat.not_lt_zero _)
  | succ t ihl =>
    intro H locs ls a1 r1 p1 L1 X1 ht hT1 hr1 hL1 hp1 hl hP hS
    have hpl := (List.getElem?_eq_some_iff.mp hp1).1
    rw [thT_len] at hpl
    have hkl := trK_len (m := m9) (r := r1) (L := L1)
    have hml := trM_len (m := m9) (r := r1) (L := L1)
    obtain ⟨ow1, ka1, va1, na1, C1, Xs1, hn1, hx1, hk1⟩ := hT1.inv
    have f1 := hn1.1
    have fk1 := hn1.2.1
    have fv1 := hn1.2.2.1
    have fn1 := hn1.2.2.2.1
    unfold thNo at f1
    unfold thJ at fk1 fv1
    unfold thA at fn1
    rw [List.length_map] at fk1 fv1
    cases r1 with
    | zero =>
      have hlen : (trK m9 0 L1).length = L1.length := thO_len
      refine lv_aload_n hx hb dX3_keyAt_4 rfl (lv_at hl 1 rfl) ?_
      refine lv_ifnull hx hb dX3_keyAt_5 ?_
      refine lv_iload_n hx hb dX3_keyAt_8 rfl (lv_at hl 0 rfl) ?_
      refine lv_aload_n hx hb dX3_keyAt_9 rfl (lv_at hl 1 rfl) ?_
      refine q_get C hP f1 rfl inX3 5 (by decide) g366 rfl dX3_keyAt_10 ?_
      refine q_alen C hP fk1 rfl dX3_keyAt_13 ?_
      refine lv_icmp_lt (tgt := 96) hx hb dX3_keyAt_14 (by decide) (fun c14 => ?_) (fun c14 => ?_)
      · replace c14 : p1 < ((trK m9 0 L1).length) := (nI_ltI (a := p1) (b := (trK m9 0 L1).length) (by omega) (by omega)).mp c14
        refine lv_aload_n hx hb dX3_keyAt_96 rfl (lv_at hl 1 rfl) ?_
        refine lv_ifnull hx hb dX3_keyAt_97 ?_
        refine lv_iload_n hx hb dX3_keyAt_100 rfl (lv_at hl 0 rfl) ?_
        refine lv_if_ge (tgt := 108) hx hb dX3_keyAt_101 (by decide) (fun c101 => ?_) (fun c101 => ?_)
        · replace c101 : 0 ≤ p1 := (nI_leI (a := 0) (b := p1) (by omega) (by omega)).mp c101
          refine lv_aload_n hx hb dX3_keyAt_108 rfl (lv_at hl 1 rfl) ?_
          refine q_get C hP f1 rfl inX3 5 (by decide) g366 rfl dX3_keyAt_109 ?_
          refine lv_iload_n hx hb dX3_keyAt_112 rfl (lv_at hl 0 rfl) ?_
          refine q_laldN C hP fk1 (by omega) (by omega) dX3_keyAt_113 ?_
          have hk9 : (trK m9 0 L1)[p1]? = some y9 := by exact hp1
          exact q_lret C hP hS ⟨by rw [th_key hk9], rfl⟩ (by omega) dX3_keyAt_114
        · replace c101 : ¬ 0 ≤ p1 := fun zq => c101 ((nI_leI (a := 0) (b := p1) (by omega) (by omega)).mpr zq)
          exfalso; omega
      · replace c14 : ¬ p1 < ((trK m9 0 L1).length) := fun zq => c14 ((nI_ltI (a := p1) (b := (trK m9 0 L1).length) (by omega) (by omega)).mpr zq)
        exfalso; omega
    | succ r1 =>
      refine lv_aload_n hx hb dX3_keyAt_4 rfl (lv_at hl 1 rfl) ?_
      refine lv_ifnull hx hb dX3_keyAt_5 ?_
      refine lv_iload_n hx hb dX3_keyAt_8 rfl (lv_at hl 0 rfl) ?_
      refine lv_aload_n hx hb dX3_keyAt_9 rfl (lv_at hl 1 rfl) ?_
      refine q_get C hP f1 rfl inX3 5 (by decide) g366 rfl dX3_keyAt_10 ?_
      refine q_alen C hP fk1 rfl dX3_keyAt_13 ?_
      refine lv_icmp_lt (tgt := 96) hx hb dX3_keyAt_14 (by decide) (fun c14 => ?_) (fun c14 => ?_)
      · replace c14 : p1 < ((trK m9 (r1 + 1) L1).length) := (nI_ltI (a := p1) (b := (trK m9 (r1 + 1) L1).length) (by omega) (by omega)).mp c14
        refine lv_aload_n hx hb dX3_keyAt_96 rfl (lv_at hl 1 rfl) ?_
        refine lv_ifnull hx hb dX3_keyAt_97 ?_
        refine lv_iload_n hx hb dX3_keyAt_100 rfl (lv_at hl 0 rfl) ?_
        refine lv_if_ge (tgt := 108) hx hb dX3_keyAt_101 (by decide) (fun c101 => ?_) (fun c101 => ?_)
        · replace c101 : 0 ≤ p1 := (nI_leI (a := 0) (b := p1) (by omega) (by omega)).mp c101
          refine lv_aload_n hx hb dX3_keyAt_108 rfl (lv_at hl 1 rfl) ?_
          refine q_get C hP f1 rfl inX3 5 (by decide) g366 rfl dX3_keyAt_109 ?_
          refine lv_iload_n hx hb dX3_keyAt_112 rfl (lv_at hl 0 rfl) ?_
          refine q_laldN C hP fk1 (by omega) (by omega) dX3_keyAt_113 ?_
          have hk9 : (trK m9 (r1 + 1) L1)[p1]? = some y9 := by rw [thT_s, List.getElem?_append_left (by omega)] at hp1; exact hp1
          exact q_lret C hP hS ⟨by rw [th_key hk9], rfl⟩ (by omega) dX3_keyAt_114
        · replace c101 : ¬ 0 ≤ p1 := fun zq => c101 ((nI_leI (a := 0) (b := p1) (by omega) (by omega)).mpr zq)
          exfalso; omega
      · replace c14 : ¬ p1 < ((trK m9 (r1 + 1) L1).length) := fun zq => c14 ((nI_ltI (a := p1) (b := (trK m9 (r1 + 1) L1).length) (by omega) (by omega)).mpr zq)
        refine lv_iload_n hx hb dX3_keyAt_17 rfl (lv_at hl 0 rfl) ?_
        refine lv_aload_n hx hb dX3_keyAt_18 rfl (lv_at hl 1 rfl) ?_
        refine q_get C hP f1 rfl inX3 5 (by decide) g366 rfl dX3_keyAt_19 ?_
        refine q_alen C hP fk1 rfl dX3_keyAt_22 ?_
        refine q_isubN hx hb dX3_keyAt_23 (by omega) ?_
        refine lv_istore_n (lv' := [(3, .int (nI (p1 - ((trK m9 (r1 + 1) L1).length)))), (2, .ref a1)]) hx hb dX3_keyAt_24 rfl hl (by decide) rfl (fun ls hl => ?_)
        refine lv_iconst (v := nI 0) hx hb dX3_keyAt_25 (by decide) ?_
        refine lv_istore (lv' := [(4, .int (nI 0)), (3, .int (nI (p1 - ((trK m9 (r1 + 1) L1).length)))), (2, .ref a1)]) hx hb dX3_keyAt_26 hl (by decide) rfl (fun ls hl => ?_)
        have hp2 : (((trM m9 (r1 + 1) L1).drop 0).flatMap (fun v => thT m9 r1 (thK m9 (6 - r1) v L1)))[p1 - (trK m9 (r1 + 1) L1).length]? = some y9 := by rw [List.drop_zero]; rw [thT_s, List.getElem?_append_right (by omega)] at hp1; exact hp1
        refine (?_ : ∀ (t2 : Nat) (H : Heap) (locs : List Loc) (ls : Array Slot) (j p3 : Nat), (trM m9 (r1 + 1) L1).length - j < t2 → lv_has ls 5 [(4, .int (nI j)), (3, .int (nI p3)), (2, .ref a1)] → p3 < 1000000 → j ≤ (trM m9 (r1 + 1) L1).length → (((trM m9 (r1 + 1) L1).drop j).flatMap (fun v => thT m9 r1 (thK m9 (6 - r1) v L1)))[p3]? = some y9 → qP D N0 h H → va_S (qA N0) s.heap H locs → W p l e _ s m _ below meth c H locs 0 0 _ (F0 m 28 ls [])) _ _ _ ls 0 _ (Nat.lt_succ_self _) (lv_sub hl [0, 1, 2] rfl) (by omega) (Nat.zero_le _) hp2 hP hS
        clear hl hP hS hp2
        intro t2
        induction t2 with
        | zero => intro H locs ls j p3 ht2; exact absurd ht2 (Nat.not_lt_zero _)
        | succ t2 ihm =>
          intro H locs ls j p3 ht2 hl hp9 hj hp3 hP hS
          have hjl0 : j < (trM m9 (r1 + 1) L1).length := Nat.lt_of_not_le (fun z => by rw [List.drop_of_length_le z] at hp3; cases hp3)
          have hjl : j < (trM m9 (r1 + 1) L1).length := by omega
          obtain ⟨v9, hv9⟩ : ∃ v, (trM m9 (r1 + 1) L1)[j]? = some v := ⟨_, List.getElem?_eq_getElem hjl⟩
          obtain ⟨r9, er9, t9⟩ := hk1 j v9 hv9
          cases er9
          obtain ⟨owc, kac, vac, nac, Cc, Xsc, hnc, -, -⟩ := t9.inv
          have fc := hnc.1
          unfold thNo at fc
          have hfm := th_fm hp3 hv9
          rw [thT_len] at hfm
          have hbl := thK_len (m := m9) (d := 6 - r1) (v := v9) (L := L1)
          refine lv_iload hx hb dX3_keyAt_28 (lv_at hl 0 rfl) ?_
          refine lv_aload_n hx hb dX3_keyAt_30 rfl (lv_at hl 2 rfl) ?_
          refine q_get C hP f1 rfl inX3 7 (by decide) g369 rfl dX3_keyAt_31 ?_
          refine q_alen C hP fn1 rfl dX3_keyAt_34 ?_
          refine lv_icmp_ge (tgt := 71) hx hb dX3_keyAt_35 (by decide) (fun c35 => ?_) (fun c35 => ?_)
          · replace c35 : ((trM m9 (r1 + 1) L1).length) ≤ j := (nI_leI (a := (trM m9 (r1 + 1) L1).length) (b := j) (by omega) (by omega)).mp c35
            exfalso; omega
          · replace c35 : ¬ ((trM m9 (r1 + 1) L1).length) ≤ j := fun zq => c35 ((nI_leI (a := (trM m9 (r1 + 1) L1).length) (b := j) (by omega) (by omega)).mpr zq)
            refine lv_iload_n hx hb dX3_keyAt_38 rfl (lv_at hl 1 rfl) ?_
            refine lv_aload_n hx hb dX3_keyAt_39 rfl (lv_at hl 2 rfl) ?_
            refine q_get C hP f1 rfl inX3 7 (by decide) g369 rfl dX3_keyAt_40 ?_
            refine lv_iload hx hb dX3_keyAt_43 (lv_at hl 0 rfl) ?_
            refine q_aaldR C hP fn1 rfl (by omega) (by omega) rfl dX3_keyAt_45 ?_
            refine q_get C hP fc rfl inX3 4 (by decide) g365 rfl dX3_keyAt_46 ?_
            refine lv_icmp_lt (tgt := 71) hx hb dX3_keyAt_49 (by decide) (fun c49 => ?_) (fun c49 => ?_)
            · replace c49 : p3 < ((thK m9 (6 - r1) v9 L1).length) := (nI_ltI (a := p3) (b := (thK m9 (6 - r1) v9 L1).length) (by omega) (by omega)).mp c49
              refine lv_iload hx hb dX3_keyAt_71 (lv_at hl 0 rfl) ?_
              refine lv_aload_n hx hb dX3_keyAt_73 rfl (lv_at hl 2 rfl) ?_
              refine q_get C hP f1 rfl inX3 7 (by decide) g369 rfl dX3_keyAt_74 ?_
              refine q_alen C hP fn1 rfl dX3_keyAt_77 ?_
              refine lv_icmp_ge (tgt := 91) hx hb dX3_keyAt_78 (by decide) (fun c78 => ?_) (fun c78 => ?_)
              · replace c78 : ((trM m9 (r1 + 1) L1).length) ≤ j := (nI_leI (a := (trM m9 (r1 + 1) L1).length) (b := j) (by omega) (by omega)).mp c78
                exfalso; omega
              · replace c78 : ¬ ((trM m9 (r1 + 1) L1).length) ≤ j := fun zq => c78 ((nI_leI (a := (trM m9 (r1 + 1) L1).length) (b := j) (by omega) (by omega)).mpr zq)
                refine lv_aload_n hx hb dX3_keyAt_81 rfl (lv_at hl 2 rfl) ?_
                refine q_get C hP f1 rfl inX3 7 (by decide) g369 rfl dX3_keyAt_82 ?_
                refine lv_iload hx hb dX3_keyAt_85 (lv_at hl 0 rfl) ?_
                refine q_aaldR C hP fn1 rfl (by omega) (by omega) rfl dX3_keyAt_87 ?_
                refine lv_goto (tgt := 92) hx hb dX3_keyAt_88 (by decide) ?_
                refine lv_astore_n (lv' := [(2, .ref (C1 j)), (4, .int (nI j)), (3, .int (nI p3))]) hx hb dX3_keyAt_92 rfl hl (by decide) rfl (fun ls hl => ?_)
                refine lv_goto (tgt := 4) hx hb dX3_keyAt_93 (by decide) ?_
                exact ihl H locs ls (C1 j) r1 p3 (thK m9 (6 - r1) v9 L1) (Xs1 j) (by omega) t9 (by omega) (Nat.lt_of_le_of_lt thK_len hL1) (hfm.1 (by omega)) (lv_sub hl [2, 0] rfl) hP hS
            · replace c49 : ¬ p3 < ((thK m9 (6 - r1) v9 L1).length) := fun zq => c49 ((nI_ltI (a := p3) (b := (thK m9 (6 - r1) v9 L1).length) (by omega) (by omega)).mpr zq)
              refine lv_iload_n hx hb dX3_keyAt_52 rfl (lv_at hl 1 rfl) ?_
              refine lv_aload_n hx hb dX3_keyAt_53 rfl (lv_at hl 2 rfl) ?_
              refine q_get C hP f1 rfl inX3 7 (by decide) g369 rfl dX3_keyAt_54 ?_
              refine lv_iload hx hb dX3_keyAt_57 (lv_at hl 0 rfl) ?_
              refine q_aaldR C hP fn1 rfl (by omega) (by omega) rfl dX3_keyAt_59 ?_
              refine q_get C hP fc rfl inX3 4 (by decide) g365 rfl dX3_keyAt_60 ?_
              refine q_isubN hx hb dX3_keyAt_63 (by omega) ?_
              refine lv_istore_n (lv' := [(3, .int (nI (p3 - ((thK m9 (6 - r1) v9 L1).length)))), (4, .int (nI j)), (2, .ref a1)]) hx hb dX3_keyAt_64 rfl hl (by decide) rfl (fun ls hl => ?_)
              refine lv_iinc (v := nI (j + 1)) (lv' := [(4, .int (nI (j + 1))), (3, .int (nI (p3 - ((thK m9 (6 - r1) v9 L1).length)))), (2, .ref a1)]) hx hb dX3_keyAt_65 hl (k := 1) rfl (nI_1 j) (by decide) rfl (fun ls hl => ?_)
              refine lv_goto (tgt := 28) hx hb dX3_keyAt_68 (by decide) ?_
              exact ihm H locs ls (j + 1) (p3 - (thK m9 (6 - r1) v9 L1).length) (by omega) (lv_sub hl [0, 1, 2] rfl) (by omega) (by omega) (hfm.2 (by omega)) hP hS
