theorem qPi.fiSet {h : qH} {s : Nat} {r : Option Nat} {M : List Int64} (hb : qPi h s r M) {a : Nat} {o : va_E} (ha : h a = some qPk) : qFi (qs h a o) 4 3 r (nI M.length) := by
  rcases hb.inv with ⟨rfl, rfl, rfl⟩ | ⟨b, v, l, r2, t, u, A, B, rfl, h2, h3, h4, rfl, h6, h7⟩
  · exact Or.inl ⟨rfl, rfl⟩
  · refine Or.inr ⟨b, _, rfl, (qs_ne (qpk_ne h2 (by omega) h6.2.2 ha)).trans h2, ?_⟩
    rw [List.length_cons, List.length_append]
    rfl
theorem qpile_eq {h : qH} {a p n : Nat} {x y z : Value} (h1 : p = n) : qs h a (.inr (4, [x, y, z, .int (nI p)])) = qs h a (.inr (4, [x, y, z, .int (nI n)])) := by
  subst h1; rfl
theorem qPour_2 {f : Nat → Int64} {s : Nat} {A B : List Int64} : qPour (qPour f s A) (s + A.length) B = qPour f s (A ++ B) := by
  funext j
  unfold qPour
  try dsimp only
  rw [List.length_append]
  by_cases c1 : s ≤ j ∧ j < s + (A.length + B.length)
  · rw [if_pos c1]
    by_cases c2 : s + A.length ≤ j ∧ j < s + A.length + B.length
    · rw [if_pos c2, List.getD_eq_getElem?_getD, List.getD_eq_getElem?_getD, List.getElem?_append_right (by omega), show j - s - A.length = j - (s + A.length) by omega]
    · rw [if_neg c2, if_pos (by omega), List.getD_eq_getElem?_getD, List.getD_eq_getElem?_getD, List.getElem?_append_left (by omega)]
  · rw [if_neg c1, if_neg (by omega), if_neg (by omega)]
theorem qPour_1 {f : Nat → Int64} {s : Nat} {A : List Int64} {v : Int64} : vp_updL (qPour f s A) (s + A.length) v = qPour f s (A ++ [v]) := by
  rw [← qPour_app, qPour_nil]
theorem dX4_init_0 : decode cX4_init 0 = .ok (.aload_n 0, 1) := by decide +kernel
theorem dX4_init_1 : decode cX4_init 1 = .ok (.invokespecial 1, 3) := by decide +kernel
theorem dX4_init_4 : decode cX4_init 4 = .ok (.aload_n 3, 1) := by decide +kernel
theorem dX4_init_5 : decode cX4_init 5 = .ok (.invokestatic 7, 3) := by decide +kernel
theorem dX4_init_8 : decode cX4_init 8 = .ok (.aload 4, 2) := by decide +kernel
theorem dX4_init_10 : decode cX4_init 10 = .ok (.invokestatic 7, 3) := by decide +kernel
theorem dX4_init_13 : decode cX4_init 13 = .ok (.if_icmp .lt 7, 3) := by decide +kernel
theorem dX4_init_16 : decode cX4_init 16 = .ok (.iconst 1, 1) := by decide +kernel
theorem dX4_init_17 : decode cX4_init 17 = .ok (.goto 4, 3) := by decide +kernel
theorem dX4_init_20 : decode cX4_init 20 = .ok (.iconst 0, 1) := by decide +kernel
theorem dX4_init_21 : decode cX4_init 21 = .ok (.istore 5, 2) := by decide +kernel
theorem dX4_init_23 : decode cX4_init 23 = .ok (.aload_n 0, 1) := by decide +kernel
theorem dX4_init_24 : decode cX4_init 24 = .ok (.lload_n 1, 1) := by decide +kernel
theorem dX4_init_25 : decode cX4_init 25 = .ok (.putfield 13, 3) := by decide +kernel
theorem dX4_init_28 : decode cX4_init 28 = .ok (.aload_n 0, 1) := by decide +kernel
theorem dX4_init_29 : decode cX4_init 29 = .ok (.iload 5, 2) := by decide +kernel
theorem dX4_init_31 : decode cX4_init 31 = .ok (.ifCond .eq 7, 3) := by decide +kernel
theorem dX4_init_34 : decode cX4_init 34 = .ok (.aload_n 3, 1) := by decide +kernel
theorem dX4_init_35 : decode cX4_init 35 = .ok (.goto 5, 3) := by decide +kernel
theorem dX4_init_38 : decode cX4_init 38 = .ok (.aload 4, 2) := by decide +kernel
theorem dX4_init_40 : decode cX4_init 40 = .ok (.putfield 17, 3) := by decide +kernel
theorem dX4_init_43 : decode cX4_init 43 = .ok (.aload_n 0, 1) := by decide +kernel
theorem dX4_init_44 : decode cX4_init 44 = .ok (.iload 5, 2) := by decide +kernel
theorem dX4_init_46 : decode cX4_init 46 = .ok (.ifCond .eq 8, 3) := by decide +kernel
theorem dX4_init_49 : decode cX4_init 49 = .ok (.aload 4, 2) := by decide +kernel
theorem dX4_init_51 : decode cX4_init 51 = .ok (.goto 4, 3) := by decide +kernel
theorem dX4_init_54 : decode cX4_init 54 = .ok (.aload_n 3, 1) := by decide +kernel
theorem dX4_init_55 : decode cX4_init 55 = .ok (.putfield 21, 3) := by decide +kernel
theorem dX4_init_58 : decode cX4_init 58 = .ok (.aload_n 0, 1) := by decide +kernel
theorem dX4_init_59 : decode cX4_init 59 = .ok (.iconst 1, 1) := by decide +kernel
theorem dX4_init_60 : decode cX4_init 60 = .ok (.aload_n 3, 1) := by decide +kernel
theorem dX4_init_61 : decode cX4_init 61 = .ok (.invokestatic 7, 3) := by decide +kernel
theorem dX4_init_64 : decode cX4_init 64 = .ok (.iadd, 1) := by decide +kernel
theorem dX4_init_65 : decode cX4_init 65 = .ok (.aload 4, 2) := by decide +kernel
theorem dX4_init_67 : decode cX4_init 67 = .ok (.invokestatic 7, 3) := by decide +kernel
theorem dX4_init_70 : decode cX4_init 70 = .ok (.iadd, 1) := by decide +kernel
theorem dX4_init_71 : decode cX4_init 71 = .ok (.putfield 24, 3) := by decide +kernel
theorem dX4_init_74 : decode cX4_init 74 = .ok (.return_, 1) := by decide +kernel
set_option maxRecDepth 100000 in
set_option maxHeartbeats 4000000 in
theorem c_X4_init (l : Launch) (D : va_G) (cy : Nat → ClassId) (N0 : Nat) (h : qH) (a : Nat) (v0 : Int64) (x y : Option Nat) (i j : Nat) (A B : List Int64) (ha : h a = some qPk) (hA : qPi h i x A) (hB : qPi h j y B) (hL : A.length + B.length < 1000000) : qC l D cy N0 yX4_init cX4_init 6 none 1 20 0 0 [.ref a, .long v0, va_rf x, va_rf y] h (fun v h' => v = none ∧ ((B.length ≤ A.length ∧ h' = qs h a (.inr (4, [.long v0, va_rf x, va_rf y, .int (nI (A.length + B.length + 1))]))) ∨ (A.length < B.length ∧ h' = qs h a (.inr (4, [.long v0, va_rf y, va_rf x, .int (nI (A.length + B.length + 1))]))))) (fun E h' => False) := by
  refine q_ofW (by decide) (by simp [lg_sl, q_catrf, q_cati, q_catl, q_cata, q_catn]) ?_
  intro p e s m below meth c ls C hP hl
  have hx := C.1
  have hb := C.2.1
  have hS : va_S (qA N0) s.heap s.heap [] := va_S.rf
  have hl : lv_has ls 6 [(0, .ref a), (1, .long v0), (3, va_rf x), (4, va_rf y)] := by simpa [lv_args, q_catrf, q_cati, q_catl, q_cata, q_catn] using hl
  have hle : qle h h := qle_rf
  have ha0 := ha
  refine lv_aload_n hx hb dX4_init_0 rfl (lv_at hl 0 rfl) ?_
  refine q_obj C g445 g28 g29 hl.1 dX4_init_1 (by simp [q_catrf, q_cati, q_catl, q_cata, q_catn]) ?_
  refine q_aload_n hx hb dX4_init_4 rfl (lv_at hl 2 rfl) ?_
  refine q_callS (rest := []) C (c_X4_sizeOf l D cy N0 h x (nI A.length) hA.fiS) kX4_sizeOf g446 g233 hP hS (by first | decide | omega) hl.1 rfl (by decide) (by first | decide | omega) dX4_init_5 (fun q ce E h' H1 locs1 hE => hE.elim) (fun v hh1 H locs hq hP hS => ?_)
  obtain ⟨rfl, rfl⟩ := hq
  refine q_aload hx hb dX4_init_8 (lv_at hl 3 rfl) ?_
  refine q_callS (rest := [.int (nI A.length)]) C (c_X4_sizeOf l D cy N0 h y (nI B.length) hB.fiS) kX4_sizeOf g446 g233 hP hS (by first | decide | omega) hl.1 rfl (by simp [q_catrf, q_cati, q_catl, q_cata, q_catn]) (by first | decide | omega) dX4_init_10 (fun q ce E h' H1 locs1 hE => hE.elim) (fun v hh2 H locs hq hP hS => ?_)
  obtain ⟨rfl, rfl⟩ := hq
  refine lv_icmp_lt (tgt := 20) hx hb dX4_init_13 (by decide) (fun c13 => ?_) (fun c13 => ?_)
  · replace c13 : (A.length) < (B.length) := (nI_ltI (a := A.length) (b := B.length) (by omega) (by omega)).mp c13
    refine lv_iconst (v := nI 0) hx hb dX4_init_20 (by decide) ?_
    refine lv_istore (lv' := [(5, .int (nI 0)), (0, .ref a), (1, .long v0), (3, va_rf x), (4, va_rf y)]) hx hb dX4_init_21 hl (by decide) (by cases y <;> rfl) (fun ls hl => ?_)
    refine lv_aload_n hx hb dX4_init_23 rfl (lv_at hl 1 rfl) ?_
    refine lv_lload_n hx hb dX4_init_24 rfl (lv_at hl 2 rfl) ?_
    refine q_putF C hP hS ha rfl inX4 tyX4 tyX4_ok nmX4 0 (by decide) g447 rfl rfl rfl rfl rfl (Nat.le_of_ble_eq_true rfl) dX4_init_25 (fun H locs hP hS => ?_)
    replace ha : (qs h a (.inr (4, [.long v0, .null, .null, .int 0]))) a = some (.inr (4, [.long v0, .null, .null, .int 0])) := qs_self
    replace hP : qP D N0 (qs h a (.inr (4, [.long v0, .null, .null, .int 0]))) H := hP
    refine lv_aload_n hx hb dX4_init_28 rfl (lv_at hl 1 rfl) ?_
    refine lv_iload hx hb dX4_init_29 (lv_at hl 0 rfl) ?_
    refine lv_if_eq (tgt := 38) hx hb dX4_init_31 (by decide) (fun c31 => ?_) (fun c31 => ?_)
    · replace c31 : 0 = 0 := (nI_eq (a := 0) (b := 0) (by omega) (by omega)).mp c31
      refine q_aload hx hb dX4_init_38 (lv_at hl 4 rfl) ?_
      refine q_putF C hP hS ha rfl inX4 tyX4 tyX4_ok nmX4 1 (by decide) g449 rfl rfl rfl (q_narf _) (q_firf _) (Nat.le_of_ble_eq_true rfl) dX4_init_40 (fun H locs hP hS => ?_)
      rw [qs_qs] at hP
      replace ha : (qs h a (.inr (4, [.long v0, va_rf y, .null, .int 0]))) a = some (.inr (4, [.long v0, va_rf y, .null, .int 0])) := qs_self
      replace hP : qP D N0 (qs h a (.inr (4, [.long v0, va_rf y, .null, .int 0]))) H := hP
      refine lv_aload_n hx hb dX4_init_43 rfl (lv_at hl 1 rfl) ?_
      refine lv_iload hx hb dX4_init_44 (lv_at hl 0 rfl) ?_
      refine lv_if_eq (tgt := 54) hx hb dX4_init_46 (by decide) (fun c46 => ?_) (fun c46 => ?_)
      · replace c46 : 0 = 0 := (nI_eq (a := 0) (b := 0) (by omega) (by omega)).mp c46
        refine q_aload_n hx hb dX4_init_54 rfl (lv_at hl 3 rfl) ?_
        refine q_putF C hP hS ha rfl inX4 tyX4 tyX4_ok nmX4 2 (by decide) g451 rfl rfl rfl (q_narf _) (q_firf _) (Nat.le_of_ble_eq_true rfl) dX4_init_55 (fun H locs hP hS => ?_)
        rw [qs_qs] at hP
        replace ha : (qs h a (.inr (4, [.long v0, va_rf y, va_rf x, .int 0]))) a = some (.inr (4, [.long v0, va_rf y, va_rf x, .int 0])) := qs_self
        replace hP : qP D N0 (qs h a (.inr (4, [.long v0, va_rf y, va_rf x, .int 0]))) H := hP
        refine lv_aload_n hx hb dX4_init_58 rfl (lv_at hl 1 rfl) ?_
        refine lv_iconst (v := nI 1) hx hb dX4_init_59 (by decide) ?_
        refine q_aload_n hx hb dX4_init_60 rfl (lv_at hl 3 rfl) ?_
        refine q_callS (rest := [.int (nI 1), .ref a]) C (c_X4_sizeOf l D cy N0 (qs h a (.inr (4, [.long v0, va_rf y, va_rf x, .int 0]))) x (nI A.length) (hA.fiSet ha0)) kX4_sizeOf g446 g233 hP hS (by first | decide | omega) hl.1 rfl (by simp [q_catrf, q_cati, q_catl, q_cata, q_catn]) (by first | decide | omega) dX4_init_61 (fun q ce E h' H1 locs1 hE => hE.elim) (fun v hh3 H locs hq hP hS => ?_)
        obtain ⟨rfl, rfl⟩ := hq
        refine q_iaddN hx hb dX4_init_64 ?_
        refine q_aload hx hb dX4_init_65 (lv_at hl 4 rfl) ?_
        refine q_callS (rest := [.int (nI (1 + (A.length))), .ref a]) C (c_X4_sizeOf l D cy N0 (qs h a (.inr (4, [.long v0, va_rf y, va_rf x, .int 0]))) y (nI B.length) (hB.fiSet ha0)) kX4_sizeOf g446 g233 hP hS (by first | decide | omega) hl.1 rfl (by simp [q_catrf, q_cati, q_catl, q_cata, q_catn]) (by first | decide | omega) dX4_init_67 (fun q ce E h' H1 locs1 hE => hE.elim) (fun v hh4 H locs hq hP hS => ?_)
        obtain ⟨rfl, rfl⟩ := hq
        refine q_iaddN hx hb dX4_init_70 ?_
        refine q_putF C hP hS ha rfl inX4 tyX4 tyX4_ok nmX4 3 (by decide) g453 rfl rfl rfl rfl rfl (Nat.le_of_ble_eq_true rfl) dX4_init_71 (fun H locs hP hS => ?_)
        rw [qs_qs] at hP
        replace ha : (qs h a (.inr (4, [.long v0, va_rf y, va_rf x, .int (nI ((1 + (A.length)) + (B.length)))]))) a = some (.inr (4, [.long v0, va_rf y, va_rf x, .int (nI ((1 + (A.length)) + (B.length)))])) := qs_self
        replace hP : qP D N0 (qs h a (.inr (4, [.long v0, va_rf y, va_rf x, .int (nI ((1 + (A.length)) + (B.length)))]))) H := hP
        exact q_vret C hP hS ⟨rfl, Or.inr ⟨by omega, qpile_eq (by omega)⟩⟩ (by omega) dX4_init_74
      · replace c46 : ¬ 0 = 0 := fun zq => c46 ((nI_eq (a := 0) (b := 0) (by omega) (by omega)).mpr zq)
        exfalso; omega
    · replace c31 : ¬ 0 = 0 := fun zq => c31 ((nI_eq (a := 0) (b := 0) (by omega) (by omega)).mpr zq)
      exfalso; omega
  · replace c13 : ¬ (A.length) < (B.length) := fun zq => c13 ((nI_ltI (a := A.length) (b := B.length) (by omega) (by omega)).mpr zq)
    refine lv_iconst (v := nI 1) hx hb dX4_init_16 (by decide) ?_
    refine lv_goto (tgt := 21) hx hb dX4_init_17 (by decide) ?_
    refine lv_istore (lv' := [(5, .int (nI 1)), (0, .ref a), (1, .long v0), (3, va_rf x), (4, va_rf y)]) hx hb dX4_init_21 hl (by decide) (by cases y <;> rfl) (fun ls hl => ?_)
    refine lv_aload_n hx hb dX4_init_23 rfl (lv_at hl 1 rfl) ?_
    refine lv_lload_n hx hb dX4_init_24 rfl (lv_at hl 2 rfl) ?_
    refine q_putF C hP hS ha rfl inX4 tyX4 tyX4_ok nmX4 0 (by decide) g447 rfl rfl rfl rfl rfl (Nat.le_of_ble_eq_true rfl) dX4_init_25 (fun H locs hP hS => ?_)
    replace ha : (qs h a (.inr (4, [.long v0, .null, .null, .int 0]))) a = some (.inr (4, [.long v0, .null, .null, .int 0])) := qs_self
    replace hP : qP D N0 (qs h a (.inr (4, [.long v0, .null, .null, .int 0]))) H := hP
    refine lv_aload_n hx hb dX4_init_28 rfl (lv_at hl 1 rfl) ?_
    refine lv_iload hx hb dX4_init_29 (lv_at hl 0 rfl) ?_
    refine lv_if_eq (tgt := 38) hx hb dX4_init_31 (by decide) (fun c31 => ?_) (fun c31 => ?_)
    · replace c31 : 1 = 0 := (nI_eq (a := 1) (b := 0) (by omega) (by omega)).mp c31
      exfalso; omega
    · replace c31 : ¬ 1 = 0 := fun zq => c31 ((nI_eq (a := 1) (b := 0) (by omega) (by omega)).mpr zq)
      refine q_aload_n hx hb dX4_init_34 rfl (lv_at hl 3 rfl) ?_
      refine lv_goto (tgt := 40) hx hb dX4_init_35 (by decide) ?_
      refine q_putF C hP hS ha rfl inX4 tyX4 tyX4_ok nmX4 1 (by decide) g449 rfl rfl rfl (q_narf _) (q_firf _) (Nat.le_of_ble_eq_true rfl) dX4_init_40 (fun H locs hP hS => ?_)
      rw [qs_qs] at hP
      replace ha : (qs h a (.inr (4, [.long v0, va_rf x, .null, .int 0]))) a = some (.inr (4, [.long v0, va_rf x, .null, .int 0])) := qs_self
      replace hP : qP D N0 (qs h a (.inr (4, [.long v0, va_rf x, .null, .int 0]))) H := hP
      refine lv_aload_n hx hb dX4_init_43 rfl (lv_at hl 1 rfl) ?_
      refine lv_iload hx hb dX4_init_44 (lv_at hl 0 rfl) ?_
      refine lv_if_eq (tgt := 54) hx hb dX4_init_46 (by decide) (fun c46 => ?_) (fun c46 => ?_)
      · replace c46 : 1 = 0 := (nI_eq (a := 1) (b := 0) (by omega) (by omega)).mp c46
        exfalso; omega
      · replace c46 : ¬ 1 = 0 := fun zq => c46 ((nI_eq (a := 1) (b := 0) (by omega) (by omega)).mpr zq)
        refine q_aload hx hb dX4_init_49 (lv_at hl 4 rfl) ?_
        refine lv_goto (tgt := 55) hx hb dX4_init_51 (by decide) ?_
        refine q_putF C hP hS ha rfl inX4 tyX4 tyX4_ok nmX4 2 (by decide) g451 rfl rfl rfl (q_narf _) (q_firf _) (Nat.le_of_ble_eq_true rfl) dX4_init_55 (fun H locs hP hS => ?_)
        rw [qs_qs] at hP
        replace ha : (qs h a (.inr (4, [.long v0, va_rf x, va_rf y, .int 0]))) a = some (.inr (4, [.long v0, va_rf x, va_rf y, .int 0])) := qs_self
        replace hP : qP D N0 (qs h a (.inr (4, [.long v0, va_rf x, va_rf y, .int 0]))) H := hP
        refine lv_aload_n hx hb dX4_init_58 rfl (lv_at hl 1 rfl) ?_
        refine lv_iconst (v := nI 1) hx hb dX4_init_59 (by decide) ?_
        refine q_aload_n hx hb dX4_init_60 rfl (lv_at hl 3 rfl) ?_
        refine q_callS (rest := [.int (nI 1), .ref a]) C (c_X4_sizeOf l D cy N0 (qs h a (.inr (4, [.long v0, va_rf x, va_rf y, .int 0]))) x (nI A.length) (hA.fiSet ha0)) kX4_sizeOf g446 g233 hP hS (by first | decide | omega) hl.1 rfl (by simp [q_catrf, q_cati, q_catl, q_cata, q_catn]) (by first | decide | omega) dX4_init_61 (fun q ce E h' H1 locs1 hE => hE.elim) (fun v hh5 H locs hq hP hS => ?_)
        obtain ⟨rfl, rfl⟩ := hq
        refine q_iaddN hx hb dX4_init_64 ?_
        refine q_aload hx hb dX4_init_65 (lv_at hl 4 rfl) ?_
        refine q_callS (rest := [.int (nI (1 + (A.length))), .ref a]) C (c_X4_sizeOf l D cy N0 (qs h a (.inr (4, [.long v0, va_rf x, va_rf y, .int 0]))) y (nI B.length) (hB.fiSet ha0)) kX4_sizeOf g446 g233 hP hS (by first | decide | omega) hl.1 rfl (by simp [q_catrf, q_cati, q_catl, q_cata, q_catn]) (by first | decide | omega) dX4_init_67 (fun q ce E h' H1 locs1 hE => hE.elim) (fun v hh6 H locs hq hP hS => ?_)
        obtain ⟨rfl, rfl⟩ := hq
        refine q_iaddN hx hb dX4_init_70 ?_
        refine q_putF C hP hS ha rfl inX4 tyX4 tyX4_ok nmX4 3 (by decide) g453 rfl rfl rfl rfl rfl (Nat.le_of_ble_eq_true rfl) dX4_init_71 (fun H locs hP hS => ?_)
        rw [qs_qs] at hP
        replace ha : (qs h a (.inr (4, [.long v0, va_rf x, va_rf y, .int (nI ((1 + (A.length)) + (B.length)))]))) a = some (.inr (4, [.long v0, va_rf x, va_rf y, .int (nI ((1 + (A.length)) + (B.length)))])) := qs_self
        replace hP : qP D N0 (qs h a (.inr (4, [.long v0, va_rf x, va_rf y, .int (nI ((1 + (A.length)) + (B.length)))]))) H := hP
        exact q_vret C hP hS ⟨rfl, Or.inl ⟨by omega, qpile_eq (by omega)⟩⟩ (by omega) dX4_init_74

theorem dX4_merged_0 : decode cX4_merged 0 = .ok (.aload_n 0, 1) := by decide +kernel
theorem dX4_merged_1 : decode cX4_merged 1 = .ok (.ifnull 7, 3) := by decide +kernel
theorem dX4_merged_4 : decode cX4_merged 4 = .ok (.aload_n 1, 1) := by decide +kernel
theorem dX4_merged_5 : decode cX4_merged 5 = .ok (.ifnonnull 13, 3) := by decide +kernel
theorem dX4_merged_8 : decode cX4_merged 8 = .ok (.aload_n 0, 1) := by decide +kernel
theorem dX4_merged_9 : decode cX4_merged 9 = .ok (.ifnonnull 7, 3) := by decide +kernel
theorem dX4_merged_12 : decode cX4_merged 12 = .ok (.aload_n 1, 1) := by decide +kernel
theorem dX4_merged_13 : decode cX4_merged 13 = .ok (.goto 4, 3) := by decide +kernel
theorem dX4_merged_16 : decode cX4_merged 16 = .ok (.aload_n 0, 1) := by decide +kernel
theorem dX4_merged_17 : decode cX4_merged 17 = .ok (.areturn, 1) := by decide +kernel
theorem dX4_merged_18 : decode cX4_merged 18 = .ok (.aload_n 0, 1) := by decide +kernel
theorem dX4_merged_19 : decode cX4_merged 19 = .ok (.getfield 13, 3) := by decide +kernel
theorem dX4_merged_22 : decode cX4_merged 22 = .ok (.aload_n 1, 1) := by decide +kernel
theorem dX4_merged_23 : decode cX4_merged 23 = .ok (.getfield 13, 3) := by decide +kernel
theorem dX4_merged_26 : decode cX4_merged 26 = .ok (.lcmp, 1) := by decide +kernel
theorem dX4_merged_27 : decode cX4_merged 27 = .ok (.ifCond .gt 27, 3) := by decide +kernel
theorem dX4_merged_30 : decode cX4_merged 30 = .ok (.new 8, 3) := by decide +kernel
theorem dX4_merged_33 : decode cX4_merged 33 = .ok (.dup, 1) := by decide +kernel
theorem dX4_merged_34 : decode cX4_merged 34 = .ok (.aload_n 0, 1) := by decide +kernel
theorem dX4_merged_35 : decode cX4_merged 35 = .ok (.getfield 13, 3) := by decide +kernel
theorem dX4_merged_38 : decode cX4_merged 38 = .ok (.aload_n 0, 1) := by decide +kernel
theorem dX4_merged_39 : decode cX4_merged 39 = .ok (.getfield 17, 3) := by decide +kernel
theorem dX4_merged_42 : decode cX4_merged 42 = .ok (.aload_n 0, 1) := by decide +kernel
theorem dX4_merged_43 : decode cX4_merged 43 = .ok (.getfield 21, 3) := by decide +kernel
theorem dX4_merged_46 : decode cX4_merged 46 = .ok (.aload_n 1, 1) := by decide +kernel
theorem dX4_merged_47 : decode cX4_merged 47 = .ok (.invokestatic 28, 3) := by decide +kernel
theorem dX4_merged_50 : decode cX4_merged 50 = .ok (.invokespecial 32, 3) := by decide +kernel
theorem dX4_merged_53 : decode cX4_merged 53 = .ok (.areturn, 1) := by decide +kernel
theorem dX4_merged_54 : decode cX4_merged 54 = .ok (.new 8, 3) := by decide +kernel
theorem dX4_merged_57 : decode cX4_merged 57 = .ok (.dup, 1) := by decide +kernel
theorem dX4_merged_58 : decode cX4_merged 58 = .ok (.aload_n 1, 1) := by decide +kernel
theorem dX4_merged_59 : decode cX4_merged 59 = .ok (.getfield 13, 3) := by decide +kernel
theorem dX4_merged_62 : decode cX4_merged 62 = .ok (.aload_n 1, 1) := by decide +kernel
theorem dX4_merged_63 : decode cX4_merged 63 = .ok (.getfield 17, 3) := by decide +kernel
theorem dX4_merged_66 : decode cX4_merged 66 = .ok (.aload_n 0, 1) := by decide +kernel
theorem dX4_merged_67 : decode cX4_merged 67 = .ok (.aload_n 1, 1) := by decide +kernel
theorem dX4_merged_68 : decode cX4_merged 68 = .ok (.getfield 21, 3) := by decide +kernel
theorem dX4_merged_71 : decode cX4_merged 71 = .ok (.invokestatic 28, 3) := by decide +kernel
theorem dX4_merged_74 : decode cX4_merged 74 = .ok (.invokespecial 32, 3) := by decide +kernel
theorem dX4_merged_77 : decode cX4_merged 77 = .ok (.areturn, 1) := by decide +kernel
set_option maxRecDepth 100000 in
set_option maxHeartbeats 4000000 in
theorem c_X4_merged (l : Launch) (D : va_G) (cy : Nat → ClassId) (N0 : Nat) (s : Nat) : ∀ (h : qH) (x y : Option Nat) (i j : Nat) (A B : List Int64) (hA : qPi h i x A) (hB : qPi h j y B) (hL : A.length + B.length < 1000000) (hs : i + j < s), qC l D cy N0 yX4_merged cX4_merged 2 (some (.object RX4)) (3 + (i + j)) (45 + 21 * (i + j)) (i + j) (4 * (i + j)) [va_rf x, va_rf y] h (fun v h' => ∃ (r9 : Option Nat) (s9 : Nat) (M9 : List Int64), v = some (va_rf r9) ∧ qle h h' ∧ qPi h' s9 r9 M9 ∧ M9.Perm (A ++ B)) (fun E h' => False) := by
  induction s with
  | zero => intro h x y i j A B hA hB hL hs; exact absurd hs (Nat.not_lt_zero _)
  | succ s ih =>
    intro h x y i j A B hA hB hL hs
    refine q_ofW (by decide) (by simp [lg_sl, q_catrf, q_cati, q_catl, q_cata, q_catn]) ?_
    intro p e s m below meth c ls C hP hl
    have hx := C.1
    have hb := C.2.1
    have hS : va_S (qA N0) s.heap s.heap [] := va_S.rf
    have hl : lv_has ls 2 [(0, va_rf x), (1, va_rf y)] := by simpa [lv_args, q_catrf, q_cati, q_catl, q_cata, q_catn] using hl
    have hle : qle h h := qle_rf
    rcases hA.inv with ⟨rfl, rfl, rfl⟩ | ⟨a1, v1, l1, r1, t1, u1, A1, B1, rfl, f1, hr1, hl1, rfl, ⟨rfl, hg11, hg12⟩, m1⟩
    · rcases hB.inv with ⟨rfl, rfl, rfl⟩ | ⟨a2, v2, l2, r2, t2, u2, A2, B2, rfl, f2, hr2, hl2, rfl, ⟨rfl, hg21, hg22⟩, m2⟩
      · refine lv_aload_nN hx hb dX4_merged_0 rfl (lv_at hl 0 rfl) ?_
        refine lv_ifnullN (tgt := 8) hx hb dX4_merged_1 (by decide) ?_
        refine lv_aload_nN hx hb dX4_merged_8 rfl (lv_at hl 0 rfl) ?_
        refine lv_ifnonnullN hx hb dX4_merged_9 ?_
        refine lv_aload_nN hx hb dX4_merged_12 rfl (lv_at hl 1 rfl) ?_
        refine lv_goto (tgt := 17) hx hb dX4_merged_13 (by decide) ?_
        exact q_aret (v := none) C (Or.inl ⟨_, rfl⟩) hP hS ⟨none, 0, ([] : List Int64), rfl, hle, qPi.nil, by simp⟩ (by omega) dX4_merged_17
      · simp only [List.length_append, List.length_cons, List.length_nil] at hL
        have eL2 : (v2 :: (A2 ++ B2)).length = A2.length + B2.length + 1 := by rw [List.length_cons, List.length_append]
        refine lv_aload_nN hx hb dX4_merged_0 rfl (lv_at hl 0 rfl) ?_
        refine lv_ifnullN (tgt := 8) hx hb dX4_merged_1 (by decide) ?_
        refine lv_aload_nN hx hb dX4_merged_8 rfl (lv_at hl 0 rfl) ?_
        refine lv_ifnonnullN hx hb dX4_merged_9 ?_
        refine lv_aload_n hx hb dX4_merged_12 rfl (lv_at hl 1 rfl) ?_
        refine lv_goto (tgt := 17) hx hb dX4_merged_13 (by decide) ?_
        exact q_aret (v := (some a2)) C (Or.inl ⟨_, rfl⟩) hP hS ⟨(some a2), (t2 + 1), (v2 :: (A2 ++ B2)), rfl, hle, hB, by simp⟩ (by omega) dX4_merged_17
    · simp only [List.length_append, List.length_cons, List.length_nil] at hL
      have eL1 : (v1 :: (A1 ++ B1)).length = A1.length + B1.length + 1 := by rw [List.length_cons, List.length_append]
      rcases hB.inv with ⟨rfl, rfl, rfl⟩ | ⟨a2, v2, l2, r2, t2, u2, A2, B2, rfl, f2, hr2, hl2, rfl, ⟨rfl, hg21, hg22⟩, m2⟩
      · refine lv_aload_n hx hb dX4_merged_0 rfl (lv_at hl 0 rfl) ?_
        refine lv_ifnull hx hb dX4_merged_1 ?_
        refine lv_aload_nN hx hb dX4_merged_4 rfl (lv_at hl 1 rfl) ?_
        refine lv_ifnonnullN hx hb dX4_merged_5 ?_
        refine lv_aload_n hx hb dX4_merged_8 rfl (lv_at hl 0 rfl) ?_
        refine lv_ifnonnull (tgt := 16) hx hb dX4_merged_9 (by decide) ?_
        refine lv_aload_n hx hb dX4_merged_16 rfl (lv_at hl 0 rfl) ?_
        exact q_aret (v := (some a1)) C (Or.inl ⟨_, rfl⟩) hP hS ⟨(some a1), (t1 + 1), (v1 :: (A1 ++ B1)), rfl, hle, hA, by simp⟩ (by omega) dX4_merged_17
      · simp only [List.length_append, List.length_cons, List.length_nil] at hL
        have eL2 : (v2 :: (A2 ++ B2)).length = A2.length + B2.length + 1 := by rw [List.length_cons, List.length_append]
        refine lv_aload_n hx hb dX4_merged_0 rfl (lv_at hl 0 rfl) ?_
        refine lv_ifnull hx hb dX4_merged_1 ?_
        refine lv_aload_n hx hb dX4_merged_4 rfl (lv_at hl 1 rfl) ?_
        refine lv_ifnonnull (tgt := 18) hx hb dX4_merged_5 (by decide) ?_
        refine lv_aload_n hx hb dX4_merged_18 rfl (lv_at hl 0 rfl) ?_
        refine q_get C hP f1 rfl inX4 0 (by decide) g447 rfl dX4_merged_19 ?_
        refine lv_aload_n hx hb dX4_merged_22 rfl (lv_at hl 1 rfl) ?_
        refine q_get C hP f2 rfl inX4 0 (by decide) g447 rfl dX4_merged_23 ?_
        refine W.lcmp hx hb dX4_merged_26 ?_
        refine lv_if_gt (tgt := 54) hx hb dX4_merged_27 (by decide) (fun c27 => ?_) (fun c27 => ?_)
        · replace c27 : v2.toInt < v1.toInt := Int64.lt_iff_toInt_lt.mp ((lg_cmp_gt _ _).mp c27)
          refine q_new (ci := 4) (fs := [.long 0, .null, .null, .int 0]) C hP hS rfl inX4 tyX4 tyX4_ok g466 g441 g13 (fun j hj => by rcases (show j = 0 ∨ j = 1 ∨ j = 2 ∨ j = 3 by omega) with rfl | rfl | rfl | rfl <;> rfl) (by first | decide | omega) (by first | decide | omega) dX4_merged_54 (fun q54 H eq54 hP hS => ?_)
          obtain ⟨hv1, ehv1⟩ : ∃ z : qH, z = qs h q54 (.inr (4, [.long 0, .null, .null, .int 0])) := ⟨_, rfl⟩
          rw [← ehv1] at hP
          have khv1 : ∀ b o, b ≠ q54 → h b = some o → hv1 b = some o := by rw [ehv1]; exact fun b o nb hb => (qs_ne nb).trans hb
          have kp : qKq h hv1 := fun b o hb _ => khv1 b o (qne_of eq54 hb) hb
          replace hA := hA.kp kp
          replace hl1 := hl1.kp kp
          replace hr1 := hr1.kp kp
          replace hB := hB.kp kp
          replace hl2 := hl2.kp kp
          replace hr2 := hr2.kp kp
          clear kp
          have n_q54_a1 : a1 ≠ q54 := qne_of eq54 f1
          replace f1 := khv1 _ _ n_q54_a1 f1
          have n_q54_a2 : a2 ≠ q54 := qne_of eq54 f2
          replace f2 := khv1 _ _ n_q54_a2 f2
          have oq54 := qle_none hle eq54
          replace hle : qle h hv1 := fun b o hb => khv1 b o (qne_of oq54 hb) (hle b o hb)
          have fq54 : hv1 q54 = some (.inr (4, [.long 0, .null, .null, .int 0])) := by rw [ehv1]; exact qs_self
          clear ehv1
          refine lv_dup hx hb dX4_merged_57 rfl ?_
          refine lv_aload_n hx hb dX4_merged_58 rfl (lv_at hl 1 rfl) ?_
          refine q_get C hP f2 rfl inX4 0 (by decide) g447 rfl dX4_merged_59 ?_
          refine lv_aload_n hx hb dX4_merged_62 rfl (lv_at hl 1 rfl) ?_
          refine q_get C hP f2 rfl inX4 1 (by decide) g449 rfl dX4_merged_63 ?_
          refine lv_aload_n hx hb dX4_merged_66 rfl (lv_at hl 0 rfl) ?_
          refine lv_aload_n hx hb dX4_merged_67 rfl (lv_at hl 1 rfl) ?_
          refine q_get C hP f2 rfl inX4 2 (by decide) g451 rfl dX4_merged_68 ?_
          refine q_callS (rest := [va_rf l2, .long v2, .ref q54, .ref q54]) C (ih hv1 (some a1) r2 (t1 + 1) t2 (v1 :: (A1 ++ B1)) A2 hA hr2 (by omega) (by omega)) kX4_merged g467 g464 hP hS (by first | decide | omega) hl.1 rfl (by simp [q_catrf, q_cati, q_catl, q_cata, q_catn]) (by first | decide | omega) dX4_merged_71 (fun q ce E h' H1 locs1 hE => hE.elim) (fun v hh1 H locs hq hP hS => ?_)
          obtain ⟨r98, s98, M98, rfl, hl98, b98, p98⟩ := hq
          replace f1 := hl98 _ _ f1
          replace f2 := hl98 _ _ f2
          replace fq54 := hl98 _ _ fq54
          replace hA := hA.le hl98
          replace hl1 := hl1.le hl98
          replace hr1 := hr1.le hl98
          replace hB := hB.le hl98
          replace hl2 := hl2.le hl98
          replace hr2 := hr2.le hl98
          replace hle := qle_tr hle hl98
          have z98 := p98.length_eq
          simp only [List.length_append, List.length_cons] at z98
          refine q_callI (rest := [.ref q54]) C (c_X4_init l D cy N0 hh1 q54 v2 l2 r98 u2 s98 B2 M98 fq54 hl2 b98 (by omega)) kX4_init g468 g443 rfl hP hS (by first | decide | omega) hl.1 rfl (by simp [q_catrf, q_cati, q_catl, q_cata, q_catn]) (by first | decide | omega) dX4_merged_74 (fun v hh2 H locs hq hP hS => ?_)
          obtain ⟨rfl, hq⟩ := hq
          rcases hq with ⟨cc9, rfl⟩ | ⟨cc9, rfl⟩
          · replace hP : qP D N0 (qs hh1 q54 (.inr (4, [.long v2, va_rf l2, va_rf r98, .int (nI (B2.length + M98.length + 1))]))) H := hP
            obtain ⟨hv2, ehv2⟩ : ∃ z : qH, z = qs hh1 q54 (.inr (4, [.long v2, va_rf l2, va_rf r98, .int (nI (B2.length + M98.length + 1))])) := ⟨_, rfl⟩
            rw [← ehv2] at hP
            have khv2 : ∀ b o, b ≠ q54 → hh1 b = some o → hv2 b = some o := by rw [ehv2]; exact fun b o nb hb => (qs_ne nb).trans hb
            have kp : qKq hh1 hv2 := fun b o hb nb => khv2 b o (fun q => by subst q; exact nb (Option.some.inj (hb.symm.trans fq54))) hb
            replace hA := hA.kp kp
            replace hl1 := hl1.kp kp
            replace hr1 := hr1.kp kp
            replace hB := hB.kp kp
            replace hl2 := hl2.kp kp
            replace hr2 := hr2.kp kp
            replace b98 := b98.kp kp
            clear kp
            replace f1 := khv2 _ _ n_q54_a1 f1
            replace f2 := khv2 _ _ n_q54_a2 f2
            replace hle : qle h hv2 := fun b o hb => khv2 b o (qne_of oq54 hb) (hle b o hb)
            replace fq54 : hv2 q54 = some (.inr (4, [.long v2, va_rf l2, va_rf r98, .int (nI (B2.length + M98.length + 1))])) := by rw [ehv2]; exact qs_self
            clear ehv2
            have bq54 := qPi.mk fq54 b98 hl2 (by omega) ⟨by omega, by omega⟩ (fun z hz => by rcases List.mem_append.mp hz with hz | hz <;> first | exact m2 z (List.mem_append_right _ hz) | (have hz := (p98.mem_iff).mp hz; simp only [List.mem_append, List.mem_cons] at hz; rcases hz with (hz | hz | hz) | hz <;> first | exact m2 z (List.mem_append_left _ hz) | (subst hz; omega) | (have := m1 z (List.mem_append_left _ hz); omega) | (have := m1 z (List.mem_append_right _ hz); omega)))
            exact q_aret (v := (some q54)) C (Or.inl ⟨_, rfl⟩) hP hS ⟨(some q54), (s98 + 1), (v2 :: (M98 ++ B2)), rfl, hle, bq54, List.perm_iff_count.mpr (fun z => by have := List.perm_iff_count.mp p98 z; simp only [List.count_append, List.count_cons] at this ⊢; omega)⟩ (by omega) dX4_merged_77
          · replace hP : qP D N0 (qs hh1 q54 (.inr (4, [.long v2, va_rf r98, va_rf l2, .int (nI (B2.length + M98.length + 1))]))) H := hP
            obtain ⟨hv3, ehv3⟩ : ∃ z : qH, z = qs hh1 q54 (.inr (4, [.long v2, va_rf r98, va_rf l2, .int (nI (B2.length + M98.length + 1))])) := ⟨_, rfl⟩
            rw [← ehv3] at hP
            have khv3 : ∀ b o, b ≠ q54 → hh1 b = some o → hv3 b = some o := by rw [ehv3]; exact fun b o nb hb => (qs_ne nb).trans hb
            have kp : qKq hh1 hv3 := fun b o hb nb => khv3 b o (fun q => by subst q; exact nb (Option.some.inj (hb.symm.trans fq54))) hb
            replace hA := hA.kp kp
            replace hl1 := hl1.kp kp
            replace hr1 := hr1.kp kp
            replace hB := hB.kp kp
            replace hl2 := hl2.kp kp
            replace hr2 := hr2.kp kp
            replace b98 := b98.kp kp
            clear kp
            replace f1 := khv3 _ _ n_q54_a1 f1
            replace f2 := khv3 _ _ n_q54_a2 f2
            replace hle : qle h hv3 := fun b o hb => khv3 b o (qne_of oq54 hb) (hle b o hb)
            replace fq54 : hv3 q54 = some (.inr (4, [.long v2, va_rf r98, va_rf l2, .int (nI (B2.length + M98.length + 1))])) := by rw [ehv3]; exact qs_self
            clear ehv3
            have bq54 := qPi.mk fq54 hl2 b98 (by omega) ⟨by omega, by omega⟩ (fun z hz => by rcases List.mem_append.mp hz with hz | hz <;> first | exact m2 z (List.mem_append_right _ hz) | (have hz := (p98.mem_iff).mp hz; simp only [List.mem_append, List.mem_cons] at hz; rcases hz with (hz | hz | hz) | hz <;> first | exact m2 z (List.mem_append_left _ hz) | (subst hz; omega) | (have := m1 z (List.mem_append_left _ hz); omega) | (have := m1 z (List.mem_append_right _ hz); omega)))
            exact q_aret (v := (some q54)) C (Or.inl ⟨_, rfl⟩) hP hS ⟨(some q54), (u2 + 1), (v2 :: (B2 ++ M98)), rfl, hle, bq54, List.perm_iff_count.mpr (fun z => by have := List.perm_iff_count.mp p98 z; simp only [List.count_append, List.count_cons] at this ⊢; omega)⟩ (by omega) dX4_merged_77
        · replace c27 : ¬ v2.toInt < v1.toInt := fun zq => c27 ((lg_cmp_gt _ _).mpr (Int64.lt_iff_toInt_lt.mpr zq))
          refine q_new (ci := 4) (fs := [.long 0, .null, .null, .int 0]) C hP hS rfl inX4 tyX4 tyX4_ok g466 g441 g13 (fun j hj => by rcases (show j = 0 ∨ j = 1 ∨ j = 2 ∨ j = 3 by omega) with rfl | rfl | rfl | rfl <;> rfl) (by first | decide | omega) (by first | decide | omega) dX4_merged_30 (fun q30 H eq30 hP hS => ?_)
          obtain ⟨hv4, ehv4⟩ : ∃ z : qH, z = qs h q30 (.inr (4, [.long 0, .null, .null, .int 0])) := ⟨_, rfl⟩
          rw [← ehv4] at hP
          have khv4 : ∀ b o, b ≠ q30 → h b = some o → hv4 b = some o := by rw [ehv4]; exact fun b o nb hb => (qs_ne nb).trans hb
          have kp : qKq h hv4 := fun b o hb _ => khv4 b o (qne_of eq30 hb) hb
          replace hA := hA.kp kp
          replace hl1 := hl1.kp kp
          replace hr1 := hr1.kp kp
          replace hB := hB.kp kp
          replace hl2 := hl2.kp kp
          replace hr2 := hr2.kp kp
          clear kp
          have n_q30_a1 : a1 ≠ q30 := qne_of eq30 f1
          replace f1 := khv4 _ _ n_q30_a1 f1
          have n_q30_a2 : a2 ≠ q30 := qne_of eq30 f2
          replace f2 := khv4 _ _ n_q30_a2 f2
          have oq30 := qle_none hle eq30
          replace hle : qle h hv4 := fun b o hb => khv4 b o (qne_of oq30 hb) (hle b o hb)
          have fq30 : hv4 q30 = some (.inr (4, [.long 0, .null, .null, .int 0])) := by rw [ehv4]; exact qs_self
          clear ehv4
          refine lv_dup hx hb dX4_merged_33 rfl ?_
          refine lv_aload_n hx hb dX4_merged_34 rfl (lv_at hl 0 rfl) ?_
          refine q_get C hP f1 rfl inX4 0 (by decide) g447 rfl dX4_merged_35 ?_
          refine lv_aload_n hx hb dX4_merged_38 rfl (lv_at hl 0 rfl) ?_
          refine q_get C hP f1 rfl inX4 1 (by decide) g449 rfl dX4_merged_39 ?_
          refine lv_aload_n hx hb dX4_merged_42 rfl (lv_at hl 0 rfl) ?_
          refine q_get C hP f1 rfl inX4 2 (by decide) g451 rfl dX4_merged_43 ?_
          refine lv_aload_n hx hb dX4_merged_46 rfl (lv_at hl 1 rfl) ?_
          refine q_callS (rest := [va_rf l1, .long v1, .ref q30, .ref q30]) C (ih hv4 r1 (some a2) t1 (t2 + 1) A1 (v2 :: (A2 ++ B2)) hr1 hB (by omega) (by omega)) kX4_merged g467 g464 hP hS (by first | decide | omega) hl.1 rfl (by simp [q_catrf, q_cati, q_catl, q_cata, q_catn]) (by first | decide | omega) dX4_merged_47 (fun q ce E h' H1 locs1 hE => hE.elim) (fun v hh3 H locs hq hP hS => ?_)
          obtain ⟨r99, s99, M99, rfl, hl99, b99, p99⟩ := hq
          replace f1 := hl99 _ _ f1
          replace f2 := hl99 _ _ f2
          replace fq30 := hl99 _ _ fq30
          replace hA := hA.le hl99
          replace hl1 := hl1.le hl99
          replace hr1 := hr1.le hl99
          replace hB := hB.le hl99
          replace hl2 := hl2.le hl99
          replace hr2 := hr2.le hl99
          replace hle := qle_tr hle hl99
          have z99 := p99.length_eq
          simp only [List.length_append, List.length_cons] at z99
          refine q_callI (rest := [.ref q30]) C (c_X4_init l D cy N0 hh3 q30 v1 l1 r99 u1 s99 B1 M99 fq30 hl1 b99 (by omega)) kX4_init g468 g443 rfl hP hS (by first | decide | omega) hl.1 rfl (by simp [q_catrf, q_cati, q_catl, q_cata, q_catn]) (by first | decide | omega) dX4_merged_50 (fun v hh4 H locs hq hP hS => ?_)
          obtain ⟨rfl, hq⟩ := hq
          rcases hq with ⟨cc9, rfl⟩ | ⟨cc9, rfl⟩
          · replace hP : qP D N0 (qs hh3 q30 (.inr (4, [.long v1, va_rf l1, va_rf r99, .int (nI (B1.length + M99.length + 1))]))) H := hP
            obtain ⟨hv5, ehv5⟩ : ∃ z : qH, z = qs hh3 q30 (.inr (4, [.long v1, va_rf l1, va_rf r99, .int (nI (B1.length + M99.length + 1))])) := ⟨_, rfl⟩
            rw [← ehv5] at hP
            have khv5 : ∀ b o, b ≠ q30 → hh3 b = some o → hv5 b = some o := by rw [ehv5]; exact fun b o nb hb => (qs_ne nb).trans hb
            have kp : qKq hh3 hv5 := fun b o hb nb => khv5 b o (fun q => by subst q; exact nb (Option.some.inj (hb.symm.trans fq30))) hb
            replace hA := hA.kp kp
            replace hl1 := hl1.kp kp
            replace hr1 := hr1.kp kp
            replace hB := hB.kp kp
            replace hl2 := hl2.kp kp
            replace hr2 := hr2.kp kp
            replace b99 := b99.kp kp
            clear kp
            replace f1 := khv5 _ _ n_q30_a1 f1
            replace f2 := khv5 _ _ n_q30_a2 f2
            replace hle : qle h hv5 := fun b o hb => khv5 b o (qne_of oq30 hb) (hle b o hb)
            replace fq30 : hv5 q30 = some (.inr (4, [.long v1, va_rf l1, va_rf r99, .int (nI (B1.length + M99.length + 1))])) := by rw [ehv5]; exact qs_self
            clear ehv5
            have bq30 := qPi.mk fq30 b99 hl1 (by omega) ⟨by omega, by omega⟩ (fun z hz => by rcases List.mem_append.mp hz with hz | hz <;> first | exact m1 z (List.mem_append_right _ hz) | (have hz := (p99.mem_iff).mp hz; simp only [List.mem_append, List.mem_cons] at hz; rcases hz with hz | hz | hz | hz <;> first | exact m1 z (List.mem_append_left _ hz) | (subst hz; omega) | (have := m2 z (List.mem_append_left _ hz); omega) | (have := m2 z (List.mem_append_right _ hz); omega)))
            exact q_aret (v := (some q30)) C (Or.inl ⟨_, rfl⟩) hP hS ⟨(some q30), (s99 + 1), (v1 :: (M99 ++ B1)), rfl, hle, bq30, List.perm_iff_count.mpr (fun z => by have := List.perm_iff_count.mp p99 z; simp only [List.count_append, List.count_cons] at this ⊢; omega)⟩ (by omega) dX4_merged_53
          · replace hP : qP D N0 (qs hh3 q30 (.inr (4, [.long v1, va_rf r99, va_rf l1, .int (nI (B1.length + M99.length + 1))]))) H := hP
            obtain ⟨hv6, ehv6⟩ : ∃ z : qH, z = qs hh3 q30 (.inr (4, [.long v1, va_rf r99, va_rf l1, .int (nI (B1.length + M99.length + 1))])) := ⟨_, rfl⟩
            rw [← ehv6] at hP
            have khv6 : ∀ b o, b ≠ q30 → hh3 b = some o → hv6 b = some o := by rw [ehv6]; exact fun b o nb hb => (qs_ne nb).trans hb
            have kp : qKq hh3 hv6 := fun b o hb nb => khv6 b o (fun q => by subst q; exact nb (Option.some.inj (hb.symm.trans fq30))) hb
            replace hA := hA.kp kp
            replace hl1 := hl1.kp kp
            replace hr1 := hr1.kp kp
            replace hB := hB.kp kp
            replace hl2 := hl2.kp kp
            replace hr2 := hr2.kp kp
            replace b99 := b99.kp kp
            clear kp
            replace f1 := khv6 _ _ n_q30_a1 f1
            replace f2 := khv6 _ _ n_q30_a2 f2
            replace hle : qle h hv6 := fun b o hb => khv6 b o (qne_of oq30 hb) (hle b o hb)
            replace fq30 : hv6 q30 = some (.inr (4, [.long v1, va_rf r99, va_rf l1, .int (nI (B1.length + M99.length + 1))])) := by rw [ehv6]; exact qs_self
            clear ehv6
            have bq30 := qPi.mk fq30 hl1 b99 (by omega) ⟨by omega, by omega⟩ (fun z hz => by rcases List.mem_append.mp hz with hz | hz <;> first | exact m1 z (List.mem_append_right _ hz) | (have hz := (p99.mem_iff).mp hz; simp only [List.mem_append, List.mem_cons] at hz; rcases hz with hz | hz | hz | hz <;> first | exact m1 z (List.mem_append_left _ hz) | (subst hz; omega) | (have := m2 z (List.mem_append_left _ hz); omega) | (have := m2 z (List.mem_append_right _ hz); omega)))
            exact q_aret (v := (some q30)) C (Or.inl ⟨_, rfl⟩) hP hS ⟨(some q30), (u1 + 1), (v1 :: (B1 ++ M99)), rfl, hle, bq30, List.perm_iff_count.mpr (fun z => by have := List.perm_iff_count.mp p99 z; simp only [List.count_append, List.count_cons] at this ⊢; omega)⟩ (by omega) dX4_merged_53
