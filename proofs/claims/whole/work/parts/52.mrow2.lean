theorem dX8_put_0 : decode cX8_put 0 = .ok (.iload 5, 2) := by decide +kernel
theorem dX8_put_2 : decode cX8_put 2 = .ok (.ifCond .eq 7, 3) := by decide +kernel
theorem dX8_put_5 : decode cX8_put 5 = .ok (.iconst (-1), 1) := by decide +kernel
theorem dX8_put_6 : decode cX8_put 6 = .ok (.goto 8, 3) := by decide +kernel
theorem dX8_put_9 : decode cX8_put 9 = .ok (.aload_n 0, 1) := by decide +kernel
theorem dX8_put_10 : decode cX8_put 10 = .ok (.lload_n 1, 1) := by decide +kernel
theorem dX8_put_11 : decode cX8_put 11 = .ok (.invokestatic 112, 3) := by decide +kernel
theorem dX8_put_14 : decode cX8_put 14 = .ok (.istore 6, 2) := by decide +kernel
theorem dX8_put_16 : decode cX8_put 16 = .ok (.iload 6, 2) := by decide +kernel
theorem dX8_put_18 : decode cX8_put 18 = .ok (.ifCond .lt 12, 3) := by decide +kernel
theorem dX8_put_21 : decode cX8_put 21 = .ok (.aload_n 0, 1) := by decide +kernel
theorem dX8_put_22 : decode cX8_put 22 = .ok (.getfield 93, 3) := by decide +kernel
theorem dX8_put_25 : decode cX8_put 25 = .ok (.iload 6, 2) := by decide +kernel
theorem dX8_put_27 : decode cX8_put 27 = .ok (.lload_n 3, 1) := by decide +kernel
theorem dX8_put_28 : decode cX8_put 28 = .ok (.lastore, 1) := by decide +kernel
theorem dX8_put_29 : decode cX8_put 29 = .ok (.return_, 1) := by decide +kernel
theorem dX8_put_30 : decode cX8_put 30 = .ok (.aload_n 0, 1) := by decide +kernel
theorem dX8_put_31 : decode cX8_put 31 = .ok (.getfield 78, 3) := by decide +kernel
theorem dX8_put_34 : decode cX8_put 34 = .ok (.istore 6, 2) := by decide +kernel
theorem dX8_put_36 : decode cX8_put 36 = .ok (.aload_n 0, 1) := by decide +kernel
theorem dX8_put_37 : decode cX8_put 37 = .ok (.getfield 75, 3) := by decide +kernel
theorem dX8_put_40 : decode cX8_put 40 = .ok (.iconst 3, 1) := by decide +kernel
theorem dX8_put_41 : decode cX8_put 41 = .ok (.if_icmp .eq 11, 3) := by decide +kernel
theorem dX8_put_44 : decode cX8_put 44 = .ok (.aload_n 0, 1) := by decide +kernel
theorem dX8_put_45 : decode cX8_put 45 = .ok (.getfield 75, 3) := by decide +kernel
theorem dX8_put_48 : decode cX8_put 48 = .ok (.iconst 5, 1) := by decide +kernel
theorem dX8_put_49 : decode cX8_put 49 = .ok (.if_icmp .ne 28, 3) := by decide +kernel
theorem dX8_put_52 : decode cX8_put 52 = .ok (.iload 6, 2) := by decide +kernel
theorem dX8_put_54 : decode cX8_put 54 = .ok (.ifCond .le 23, 3) := by decide +kernel
theorem dX8_put_57 : decode cX8_put 57 = .ok (.aload_n 0, 1) := by decide +kernel
theorem dX8_put_58 : decode cX8_put 58 = .ok (.getfield 90, 3) := by decide +kernel
theorem dX8_put_61 : decode cX8_put 61 = .ok (.iload 6, 2) := by decide +kernel
theorem dX8_put_63 : decode cX8_put 63 = .ok (.iconst 1, 1) := by decide +kernel
theorem dX8_put_64 : decode cX8_put 64 = .ok (.isub, 1) := by decide +kernel
theorem dX8_put_65 : decode cX8_put 65 = .ok (.laload, 1) := by decide +kernel
theorem dX8_put_66 : decode cX8_put 66 = .ok (.lload_n 1, 1) := by decide +kernel
theorem dX8_put_67 : decode cX8_put 67 = .ok (.lcmp, 1) := by decide +kernel
theorem dX8_put_68 : decode cX8_put 68 = .ok (.ifCond .le 9, 3) := by decide +kernel
theorem dX8_put_71 : decode cX8_put 71 = .ok (.iinc 6 (-1), 3) := by decide +kernel
theorem dX8_put_74 : decode cX8_put 74 = .ok (.goto (-22), 3) := by decide +kernel
theorem dX8_put_77 : decode cX8_put 77 = .ok (.aload_n 0, 1) := by decide +kernel
theorem dX8_put_78 : decode cX8_put 78 = .ok (.iload 6, 2) := by decide +kernel
theorem dX8_put_80 : decode cX8_put 80 = .ok (.lload_n 1, 1) := by decide +kernel
theorem dX8_put_81 : decode cX8_put 81 = .ok (.lload_n 3, 1) := by decide +kernel
theorem dX8_put_82 : decode cX8_put 82 = .ok (.invokestatic 116, 3) := by decide +kernel
theorem dX8_put_85 : decode cX8_put 85 = .ok (.return_, 1) := by decide +kernel
set_option maxRecDepth 100000 in
set_option maxHeartbeats 4000000 in
theorem c_X8_put (l : Launch) (D : va_G) (cy : Nat → ClassId) (N0 : Nat) (h : qH) (a ka va : Nat) (kd sm dp rw : Int32) (n : Nat) (f g : Nat → Int64) (k0 v0 : Int64) (z0 : Int32) (hR : qRw cy h a ka va kd (nI n) sm dp rw f g) (hn : n < 1001) (he : z0 = 0 ∨ z0 = 1) : qC l D cy N0 yX8_put cX8_put 7 none 1 26 0 0 [.ref a, .long k0, .long v0, .int z0] h (fun v h' => v = none ∧ ((z0 = 0 ∧ ∃ j, j < n ∧ f j = k0 ∧ (∀ q, q < j → f q ≠ k0) ∧ h' = qRh cy h a ka va kd (nI n) sm dp rw (f) (vp_updL g j v0)) ∨ (((∀ q, q < n → f q ≠ k0) ∨ z0 = 1) ∧ ∃ p0, p0 ≤ n ∧ ((kd = 3 ∨ kd = 5) → (p0 = 0 ∨ ¬ k0.toInt < (f (p0 - 1)).toInt) ∧ (∀ q, p0 ≤ q → q < n → k0.toInt < (f q).toInt)) ∧ (¬ (kd = 3 ∨ kd = 5) → p0 = n) ∧ h' = qRh cy h a ka va kd (nI (n + 1)) sm dp rw (vp_updL (qSh f p0 n) p0 k0) (vp_updL (qSh g p0 n) p0 v0)))) (fun E h' => False) := by
  refine q_ofW (by decide) (by exact Nat.le_of_ble_eq_true rfl) ?_
  intro p e s m below meth c ls C hP hl
  have hx := C.1
  have hb := C.2.1
  have hS : va_S (qA N0) s.heap s.heap [] := va_S.rf
  have hl : lv_has ls 7 [(0, .ref a), (1, .long k0), (3, .long v0), (5, .int z0)] := hl
  have hle : qle h h := qle_rf
  rw [← hR.same] at hP
  have hR9 := hR.new (kd2 := kd) (n2 := (nI n)) (sm2 := sm) (dp2 := dp) (rw2 := rw) (f2 := f) (g2 := g)
  have fa := hR9.2.2.2.1
  have fk := hR9.2.2.2.2.1
  have fv := hR9.2.2.2.2.2
  unfold qRb at fa
  unfold qJr at fk fv
  rcases he with rfl | rfl
  · replace hl : lv_has ls 7 [(0, .ref a), (1, .long k0), (3, .long v0), (5, .int (nI 0))] := hl
    refine lv_iload hx hb dX8_put_0 (lv_at hl 3 rfl) ?_
    refine lv_if_eq (tgt := 9) hx hb dX8_put_2 (by decide) (fun c2 => ?_) (fun c2 => ?_)
    · replace c2 : 0 = 0 := (nI_eq (a := 0) (b := 0) (by omega) (by omega)).mp c2
      refine lv_aload_n hx hb dX8_put_9 rfl (lv_at hl 0 rfl) ?_
      refine lv_lload_n hx hb dX8_put_10 rfl (lv_at hl 1 rfl) ?_
      refine q_callS (rest := []) C (c_X8_find l D cy N0 (qRh cy h a ka va kd (nI n) sm dp rw f g) a ka va kd sm dp rw n f g k0 (by rw [hR.same]; exact hR) (by omega)) kX8_find g1279 g1280 hP hS (by first | decide | omega) hl.1 rfl (by decide) (by first | decide | omega) dX8_put_11 (fun q ce E h' H1 locs1 hE => hE.elim) (fun v hh1 H locs hq hP hS => ?_)
      obtain ⟨rfl, hq⟩ := hq
      rcases hq with ⟨j8, rfl, hj8, e8, m8⟩ | ⟨rfl, m8⟩
      · refine lv_istore (lv' := [(6, .int (nI j8)), (0, .ref a), (1, .long k0), (3, .long v0), (5, .int (nI 0))]) hx hb dX8_put_14 hl (by decide) rfl (fun ls hl => ?_)
        refine lv_iload hx hb dX8_put_16 (lv_at hl 0 rfl) ?_
        refine lv_if_lt (tgt := 30) hx hb dX8_put_18 (by decide) (fun c18 => ?_) (fun c18 => ?_)
        · replace c18 : j8 < 0 := (nI_ltI (a := j8) (b := 0) (by omega) (by omega)).mp c18
          exfalso; omega
        · replace c18 : ¬ j8 < 0 := fun zq => c18 ((nI_ltI (a := j8) (b := 0) (by omega) (by omega)).mpr zq)
          refine lv_aload_n hx hb dX8_put_21 rfl (lv_at hl 1 rfl) ?_
          refine q_get C hP fa rfl inX7 1 (by decide) g1140 rfl dX8_put_22 ?_
          refine lv_iload hx hb dX8_put_25 (lv_at hl 0 rfl) ?_
          refine lv_lload_n hx hb dX8_put_27 rfl (lv_at hl 3 rfl) ?_
          refine q_lastN C hP hS fv (by omega) (by omega) dX8_put_28 (fun H locs hP hS => ?_)
          rw [hR.setv] at hP
          have hR9 := hR.new (kd2 := kd) (n2 := (nI n)) (sm2 := sm) (dp2 := dp) (rw2 := rw) (f2 := f) (g2 := vp_updL g j8 v0)
          have fa := hR9.2.2.2.1
          have fk := hR9.2.2.2.2.1
          have fv := hR9.2.2.2.2.2
          unfold qRb at fa
          unfold qJr at fk fv
          exact q_vret C hP hS ⟨rfl, Or.inl ⟨rfl, j8, hj8, e8, m8, rfl⟩⟩ (by omega) dX8_put_29
      · refine lv_istore (lv' := [(6, .int (-1)), (0, .ref a), (1, .long k0), (3, .long v0), (5, .int (nI 0))]) hx hb dX8_put_14 hl (by decide) rfl (fun ls hl => ?_)
        refine lv_iload hx hb dX8_put_16 (lv_at hl 0 rfl) ?_
        refine lv_if_lt (tgt := 30) hx hb dX8_put_18 (by decide) (fun _ => ?_) (fun c => absurd (by decide) c)
        refine lv_aload_n hx hb dX8_put_30 rfl (lv_at hl 1 rfl) ?_
        refine q_get C hP fa rfl inX7 3 (by decide) g1143 rfl dX8_put_31 ?_
        refine lv_istore (lv' := [(6, .int (nI n)), (0, .ref a), (1, .long k0), (3, .long v0), (5, .int (nI 0))]) hx hb dX8_put_34 hl (by decide) rfl (fun ls hl => ?_)
        refine lv_aload_n hx hb dX8_put_36 rfl (lv_at hl 1 rfl) ?_
        refine q_get C hP fa rfl inX7 2 (by decide) g1142 rfl dX8_put_37 ?_
        refine lv_iconst (v := 3) hx hb dX8_put_40 (by decide) ?_
        refine lv_icmp_eq (tgt := 52) hx hb dX8_put_41 (by decide) (fun c41 => ?_) (fun c41 => ?_)
        · have hk9 : kd = 3 ∨ kd = 5 := by first | exact Or.inl c41 | exact Or.inr c49
          refine (?_ : ∀ (t : Nat) (H : Heap) (locs : List Loc) (ls : Array Slot) (i : Nat), i < t → lv_has ls 7 [(6, .int (nI i)), (0, .ref a), (1, .long k0), (3, .long v0)] → i ≤ n → (∀ q, i ≤ q → q < n → k0.toInt < (f q).toInt) → qP D N0 (qRh cy h a ka va kd (nI n) sm dp rw (f) (g)) H → va_S (qA N0) s.heap H locs → W p l e _ s m _ below meth c H locs 0 0 _ (F0 m 52 ls [])) _ _ _ ls n (Nat.lt_succ_self _) (lv_sub hl [0, 1, 2, 3] rfl) (Nat.le_refl _) (fun q h1 h2 => absurd h2 (Nat.not_lt.mpr h1)) hP hS
          clear hl hP hS
          intro t
          induction t with
          | zero => intro H locs ls i ht; exact absurd ht (Nat.not_lt_zero _)
          | succ t ihl =>
            intro H locs ls i ht hl hi kk hP hS
            have hR9 := hR.new (kd2 := kd) (n2 := (nI n)) (sm2 := sm) (dp2 := dp) (rw2 := rw) (f2 := f) (g2 := g)
            have fa := hR9.2.2.2.1
            have fk := hR9.2.2.2.2.1
            have fv := hR9.2.2.2.2.2
            unfold qRb at fa
            unfold qJr at fk fv
            refine lv_iload hx hb dX8_put_52 (lv_at hl 0 rfl) ?_
            refine lv_if_le (tgt := 77) hx hb dX8_put_54 (by decide) (fun c54 => ?_) (fun c54 => ?_)
            · replace c54 : i ≤ 0 := (nI_leI (a := i) (b := 0) (by omega) (by omega)).mp c54
              refine lv_aload_n hx hb dX8_put_77 rfl (lv_at hl 1 rfl) ?_
              refine lv_iload hx hb dX8_put_78 (lv_at hl 0 rfl) ?_
              refine lv_lload_n hx hb dX8_put_80 rfl (lv_at hl 2 rfl) ?_
              refine lv_lload_n hx hb dX8_put_81 rfl (lv_at hl 3 rfl) ?_
              refine q_callS (rest := []) C (c_X8_insert l D cy N0 (qRh cy h a ka va kd (nI n) sm dp rw f g) a ka va kd sm dp rw n f g i k0 v0 (by rw [hR.same]; exact hR) (by omega) (by omega)) kX8_insert g1282 g1283 hP hS (by first | decide | omega) hl.1 rfl (by decide) (by first | decide | omega) dX8_put_82 (fun q ce E h' H1 locs1 hE => hE.elim) (fun v hh2 H locs hq hP hS => ?_)
              obtain ⟨rfl, rfl⟩ := hq
              rw [hR.again] at hP
              exact q_vret C hP hS ⟨rfl, Or.inr ⟨Or.inl m8, i, by omega, fun _ => ⟨Or.inl (by omega), kk⟩, fun z => absurd hk9 z, rfl⟩⟩ (by omega) dX8_put_85
            · replace c54 : ¬ i ≤ 0 := fun zq => c54 ((nI_leI (a := i) (b := 0) (by omega) (by omega)).mpr zq)
              obtain ⟨i, rfl⟩ : ∃ i9, i = i9 + 1 := ⟨i - 1, by omega⟩
              refine lv_aload_n hx hb dX8_put_57 rfl (lv_at hl 1 rfl) ?_
              refine q_get C hP fa rfl inX7 0 (by decide) g1138 rfl dX8_put_58 ?_
              refine lv_iload hx hb dX8_put_61 (lv_at hl 0 rfl) ?_
              refine lv_iconst (v := nI 1) hx hb dX8_put_63 (by decide) ?_
              refine q_isubN hx hb dX8_put_64 (by omega) ?_
              refine q_laldN C hP fk (by omega) (by omega) dX8_put_65 ?_
              refine lv_lload_n hx hb dX8_put_66 rfl (lv_at hl 2 rfl) ?_
              refine W.lcmp hx hb dX8_put_67 ?_
              refine lv_if_le (tgt := 77) hx hb dX8_put_68 (by decide) (fun c68 => ?_) (fun c68 => ?_)
              · replace c68 : (f ((i + 1) - 1)).toInt ≤ k0.toInt := Int64.le_iff_toInt_le.mp ((lg_cmp_le _ _).mp c68)
                refine lv_aload_n hx hb dX8_put_77 rfl (lv_at hl 1 rfl) ?_
                refine lv_iload hx hb dX8_put_78 (lv_at hl 0 rfl) ?_
                refine lv_lload_n hx hb dX8_put_80 rfl (lv_at hl 2 rfl) ?_
                refine lv_lload_n hx hb dX8_put_81 rfl (lv_at hl 3 rfl) ?_
                refine q_callS (rest := []) C (c_X8_insert l D cy N0 (qRh cy h a ka va kd (nI n) sm dp rw f g) a ka va kd sm dp rw n f g (i + 1) k0 v0 (by rw [hR.same]; exact hR) (by omega) (by omega)) kX8_insert g1282 g1283 hP hS (by first | decide | omega) hl.1 rfl (by decide) (by first | decide | omega) dX8_put_82 (fun q ce E h' H1 locs1 hE => hE.elim) (fun v hh3 H locs hq hP hS => ?_)
                obtain ⟨rfl, rfl⟩ := hq
                rw [hR.again] at hP
                exact q_vret C hP hS ⟨rfl, Or.inr ⟨Or.inl m8, (i + 1), by omega, fun _ => ⟨Or.inr (by simpa using c68), kk⟩, fun z => absurd hk9 z, rfl⟩⟩ (by omega) dX8_put_85
              · replace c68 : ¬ (f ((i + 1) - 1)).toInt ≤ k0.toInt := fun zq => c68 ((lg_cmp_le _ _).mpr (Int64.le_iff_toInt_le.mpr zq))
                refine lv_iinc (v := nI i) (lv' := [(6, .int (nI i)), (0, .ref a), (1, .long k0), (3, .long v0)]) hx hb dX8_put_71 hl (k := 0) rfl (q_decN i) (by decide) rfl (fun ls hl => ?_)
                refine lv_goto (tgt := 52) hx hb dX8_put_74 (by decide) ?_
                exact ihl H locs ls i (by omega) (lv_sub hl [0, 1, 2, 3] rfl) (by omega) (fun q h1 h2 => if e : q = i then by (subst e; exact by simpa using c68) else kk q (by omega) h2) hP hS
        · refine lv_aload_n hx hb dX8_put_44 rfl (lv_at hl 1 rfl) ?_
          refine q_get C hP fa rfl inX7 2 (by decide) g1142 rfl dX8_put_45 ?_
          refine lv_iconst (v := 5) hx hb dX8_put_48 (by decide) ?_
          refine lv_icmp_ne (tgt := 77) hx hb dX8_put_49 (by decide) (fun c49 => ?_) (fun c49 => ?_)
          · refine lv_aload_n hx hb dX8_put_77 rfl (lv_at hl 1 rfl) ?_
            refine lv_iload hx hb dX8_put_78 (lv_at hl 0 rfl) ?_
            refine lv_lload_n hx hb dX8_put_80 rfl (lv_at hl 2 rfl) ?_
            refine lv_lload_n hx hb dX8_put_81 rfl (lv_at hl 3 rfl) ?_
            refine q_callS (rest := []) C (c_X8_insert l D cy N0 (qRh cy h a ka va kd (nI n) sm dp rw f g) a ka va kd sm dp rw n f g n k0 v0 (by rw [hR.same]; exact hR) (by omega) (by omega)) kX8_insert g1282 g1283 hP hS (by first | decide | omega) hl.1 rfl (by decide) (by first | decide | omega) dX8_put_82 (fun q ce E h' H1 locs1 hE => hE.elim) (fun v hh4 H locs hq hP hS => ?_)
            obtain ⟨rfl, rfl⟩ := hq
            rw [hR.again] at hP
            exact q_vret C hP hS ⟨rfl, Or.inr ⟨Or.inl m8, n, by omega, fun z => absurd z (fun z => z.elim c41 c49), fun _ => rfl, rfl⟩⟩ (by omega) dX8_put_85
          · have hk9 : kd = 3 ∨ kd = 5 := by first | exact Or.inl c41 | exact Or.inr c49
            refine (?_ : ∀ (t : Nat) (H : Heap) (locs : List Loc) (ls : Array Slot) (i : Nat), i < t → lv_has ls 7 [(6, .int (nI i)), (0, .ref a), (1, .long k0), (3, .long v0)] → i ≤ n → (∀ q, i ≤ q → q < n → k0.toInt < (f q).toInt) → qP D N0 (qRh cy h a ka va kd (nI n) sm dp rw (f) (g)) H → va_S (qA N0) s.heap H locs → W p l e _ s m _ below meth c H locs 0 0 _ (F0 m 52 ls [])) _ _ _ ls n (Nat.lt_succ_self _) (lv_sub hl [0, 1, 2, 3] rfl) (Nat.le_refl _) (fun q h1 h2 => absurd h2 (Nat.not_lt.mpr h1)) hP hS
            clear hl hP hS
            intro t
            induction t with
            | zero => intro H locs ls i ht; exact absurd ht (Nat.not_lt_zero _)
            | succ t ihl =>
              intro H locs ls i ht hl hi kk hP hS
              have hR9 := hR.new (kd2 := kd) (n2 := (nI n)) (sm2 := sm) (dp2 := dp) (rw2 := rw) (f2 := f) (g2 := g)
              have fa := hR9.2.2.2.1
              have fk := hR9.2.2.2.2.1
              have fv := hR9.2.2.2.2.2
              unfold qRb at fa
              unfold qJr at fk fv
              refine lv_iload hx hb dX8_put_52 (lv_at hl 0 rfl) ?_
              refine lv_if_le (tgt := 77) hx hb dX8_put_54 (by decide) (fun c54 => ?_) (fun c54 => ?_)
              · replace c54 : i ≤ 0 := (nI_leI (a := i) (b := 0) (by omega) (by omega)).mp c54
                refine lv_aload_n hx hb dX8_put_77 rfl (lv_at hl 1 rfl) ?_
                refine lv_iload hx hb dX8_put_78 (lv_at hl 0 rfl) ?_
                refine lv_lload_n hx hb dX8_put_80 rfl (lv_at hl 2 rfl) ?_
                refine lv_lload_n hx hb dX8_put_81 rfl (lv_at hl 3 rfl) ?_
                refine q_callS (rest := []) C (c_X8_insert l D cy N0 (qRh cy h a ka va kd (nI n) sm dp rw f g) a ka va kd sm dp rw n f g i k0 v0 (by rw [hR.same]; exact hR) (by omega) (by omega)) kX8_insert g1282 g1283 hP hS (by first | decide | omega) hl.1 rfl (by decide) (by first | decide | omega) dX8_put_82 (fun q ce E h' H1 locs1 hE => hE.elim) (fun v hh5 H locs hq hP hS => ?_)
                obtain ⟨rfl, rfl⟩ := hq
                rw [hR.again] at hP
                exact q_vret C hP hS ⟨rfl, Or.inr ⟨Or.inl m8, i, by omega, fun _ => ⟨Or.inl (by omega), kk⟩, fun z => absurd hk9 z, rfl⟩⟩ (by omega) dX8_put_85
              · replace c54 : ¬ i ≤ 0 := fun zq => c54 ((nI_leI (a := i) (b := 0) (by omega) (by omega)).mpr zq)
                obtain ⟨i, rfl⟩ : ∃ i9, i = i9 + 1 := ⟨i - 1, by omega⟩
                refine lv_aload_n hx hb dX8_put_57 rfl (lv_at hl 1 rfl) ?_
                refine q_get C hP fa rfl inX7 0 (by decide) g1138 rfl dX8_put_58 ?_
                refine lv_iload hx hb dX8_put_61 (lv_at hl 0 rfl) ?_
                refine lv_iconst (v := nI 1) hx hb dX8_put_63 (by decide) ?_
                refine q_isubN hx hb dX8_put_64 (by omega) ?_
                refine q_laldN C hP fk (by omega) (by omega) dX8_put_65 ?_
                refine lv_lload_n hx hb dX8_put_66 rfl (lv_at hl 2 rfl) ?_
                refine W.lcmp hx hb dX8_put_67 ?_
                refine lv_if_le (tgt := 77) hx hb dX8_put_68 (by decide) (fun c68 => ?_) (fun c68 => ?_)
                · replace c68 : (f ((i + 1) - 1)).toInt ≤ k0.toInt := Int64.le_iff_toInt_le.mp ((lg_cmp_le _ _).mp c68)
                  refine lv_aload_n hx hb dX8_put_77 rfl (lv_at hl 1 rfl) ?_
                  refine lv_iload hx hb dX8_put_78 (lv_at hl 0 rfl) ?_
                  refine lv_lload_n hx hb dX8_put_80 rfl (lv_at hl 2 rfl) ?_
                  refine lv_lload_n hx hb dX8_put_81 rfl (lv_at hl 3 rfl) ?_
                  refine q_callS (rest := []) C (c_X8_insert l D cy N0 (qRh cy h a ka va kd (nI n) sm dp rw f g) a ka va kd sm dp rw n f g (i + 1) k0 v0 (by rw [hR.same]; exact hR) (by omega) (by omega)) kX8_insert g1282 g1283 hP hS (by first | decide | omega) hl.1 rfl (by decide) (by first | decide | omega) dX8_put_82 (fun q ce E h' H1 locs1 hE => hE.elim) (fun v hh6 H locs hq hP hS => ?_)
                  obtain ⟨rfl, rfl⟩ := hq
                  rw [hR.again] at hP
                  exact q_vret C hP hS ⟨rfl, Or.inr ⟨Or.inl m8, (i + 1), by omega, fun _ => ⟨Or.inr (by simpa using c68), kk⟩, fun z => absurd hk9 z, rfl⟩⟩ (by omega) dX8_put_85
                · replace c68 : ¬ (f ((i + 1) - 1)).toInt ≤ k0.toInt := fun zq => c68 ((lg_cmp_le _ _).mpr (Int64.le_iff_toInt_le.mpr zq))
                  refine lv_iinc (v := nI i) (lv' := [(6, .int (nI i)), (0, .ref a), (1, .long k0), (3, .long v0)]) hx hb dX8_put_71 hl (k := 0) rfl (q_decN i) (by decide) rfl (fun ls hl => ?_)
                  refine lv_goto (tgt := 52) hx hb dX8_put_74 (by decide) ?_
                  exact ihl H locs ls i (by omega) (lv_sub hl [0, 1, 2, 3] rfl) (by omega) (fun q h1 h2 => if e : q = i then by (subst e; exact by simpa using c68) else kk q (by omega) h2) hP hS
    · replace c2 : ¬ 0 = 0 := fun zq => c2 ((nI_eq (a := 0) (b := 0) (by omega) (by omega)).mpr zq)
      exfalso; omega
  · replace hl : lv_has ls 7 [(0, .ref a), (1, .long k0), (3, .long v0), (5, .int (nI 1))] := hl
    refine lv_iload hx hb dX8_put_0 (lv_at hl 3 rfl) ?_
    refine lv_if_eq (tgt := 9) hx hb dX8_put_2 (by decide) (fun c2 => ?_) (fun c2 => ?_)
    · replace c2 : 1 = 0 := (nI_eq (a := 1) (b := 0) (by omega) (by omega)).mp c2
      exfalso; omega
    · replace c2 : ¬ 1 = 0 := fun zq => c2 ((nI_eq (a := 1) (b := 0) (by omega) (by omega)).mpr zq)
      refine lv_iconst (v := -1) hx hb dX8_put_5 (by decide) ?_
      refine lv_goto (tgt := 14) hx hb dX8_put_6 (by decide) ?_
      refine lv_istore (lv' := [(6, .int (-1)), (0, .ref a), (1, .long k0), (3, .long v0), (5, .int (nI 1))]) hx hb dX8_put_14 hl (by decide) rfl (fun ls hl => ?_)
      refine lv_iload hx hb dX8_put_16 (lv_at hl 0 rfl) ?_
      refine lv_if_lt (tgt := 30) hx hb dX8_put_18 (by decide) (fun _ => ?_) (fun c => absurd (by decide) c)
      refine lv_aload_n hx hb dX8_put_30 rfl (lv_at hl 1 rfl) ?_
      refine q_get C hP fa rfl inX7 3 (by decide) g1143 rfl dX8_put_31 ?_
      refine lv_istore (lv' := [(6, .int (nI n)), (0, .ref a), (1, .long k0), (3, .long v0), (5, .int (nI 1))]) hx hb dX8_put_34 hl (by decide) rfl (fun ls hl => ?_)
      refine lv_aload_n hx hb dX8_put_36 rfl (lv_at hl 1 rfl) ?_
      refine q_get C hP fa rfl inX7 2 (by decide) g1142 rfl dX8_put_37 ?_
      refine lv_iconst (v := 3) hx hb dX8_put_40 (by decide) ?_
      refine lv_icmp_eq (tgt := 52) hx hb dX8_put_41 (by decide) (fun c41 => ?_) (fun c41 => ?_)
      · have hk9 : kd = 3 ∨ kd = 5 := by first | exact Or.inl c41 | exact Or.inr c49
        refine (?_ : ∀ (t : Nat) (H : Heap) (locs : List Loc) (ls : Array Slot) (i : Nat), i < t → lv_has ls 7 [(6, .int (nI i)), (0, .ref a), (1, .long k0), (3, .long v0)] → i ≤ n → (∀ q, i ≤ q → q < n → k0.toInt < (f q).toInt) → qP D N0 (qRh cy h a ka va kd (nI n) sm dp rw (f) (g)) H → va_S (qA N0) s.heap H locs → W p l e _ s m _ below meth c H locs 0 0 _ (F0 m 52 ls [])) _ _ _ ls n (Nat.lt_succ_self _) (lv_sub hl [0, 1, 2, 3] rfl) (Nat.le_refl _) (fun q h1 h2 => absurd h2 (Nat.not_lt.mpr h1)) hP hS
        clear hl hP hS
        intro t
        induction t with
        | zero => intro H locs ls i ht; exact absurd ht (Nat.not_lt_zero _)
        | succ t ihl =>
          intro H locs ls i ht hl hi kk hP hS
          have hR9 := hR.new (kd2 := kd) (n2 := (nI n)) (sm2 := sm) (dp2 := dp) (rw2 := rw) (f2 := f) (g2 := g)
          have fa := hR9.2.2.2.1
          have fk := hR9.2.2.2.2.1
          have fv := hR9.2.2.2.2.2
          unfold qRb at fa
          unfold qJr at fk fv
          refine lv_iload hx hb dX8_put_52 (lv_at hl 0 rfl) ?_
          refine lv_if_le (tgt := 77) hx hb dX8_put_54 (by decide) (fun c54 => ?_) (fun c54 => ?_)
          · replace c54 : i ≤ 0 := (nI_leI (a := i) (b := 0) (by omega) (by omega)).mp c54
            refine lv_aload_n hx hb dX8_put_77 rfl (lv_at hl 1 rfl) ?_
            refine lv_iload hx hb dX8_put_78 (lv_at hl 0 rfl) ?_
            refine lv_lload_n hx hb dX8_put_80 rfl (lv_at hl 2 rfl) ?_
            refine lv_lload_n hx hb dX8_put_81 rfl (lv_at hl 3 rfl) ?_
            refine q_callS (rest := []) C (c_X8_insert l D cy N0 (qRh cy h a ka va kd (nI n) sm dp rw f g) a ka va kd sm dp rw n f g i k0 v0 (by rw [hR.same]; exact hR) (by omega) (by omega)) kX8_insert g1282 g1283 hP hS (by first | decide | omega) hl.1 rfl (by decide) (by first | decide | omega) dX8_put_82 (fun q ce E h' H1 locs1 hE => hE.elim) (fun v hh7 H locs hq hP hS => ?_)
            obtain ⟨rfl, rfl⟩ := hq
            rw [hR.again] at hP
            exact q_vret C hP hS ⟨rfl, Or.inr ⟨Or.inr rfl, i, by omega, fun _ => ⟨Or.inl (by omega), kk⟩, fun z => absurd hk9 z, rfl⟩⟩ (by omega) dX8_put_85
          · replace c54 : ¬ i ≤ 0 := fun zq => c54 ((nI_leI (a := i) (b := 0) (by omega) (by omega)).mpr zq)
            obtain ⟨i, rfl⟩ : ∃ i9, i = i9 + 1 := ⟨i - 1, by omega⟩
            refine lv_aload_n hx hb dX8_put_57 rfl (lv_at hl 1 rfl) ?_
            refine q_get C hP fa rfl inX7 0 (by decide) g1138 rfl dX8_put_58 ?_
            refine lv_iload hx hb dX8_put_61 (lv_at hl 0 rfl) ?_
            refine lv_iconst (v := nI 1) hx hb dX8_put_63 (by decide) ?_
            refine q_isubN hx hb dX8_put_64 (by omega) ?_
            refine q_laldN C hP fk (by omega) (by omega) dX8_put_65 ?_
            refine lv_lload_n hx hb dX8_put_66 rfl (lv_at hl 2 rfl) ?_
            refine W.lcmp hx hb dX8_put_67 ?_
            refine lv_if_le (tgt := 77) hx hb dX8_put_68 (by decide) (fun c68 => ?_) (fun c68 => ?_)
            · replace c68 : (f ((i + 1) - 1)).toInt ≤ k0.toInt := Int64.le_iff_toInt_le.mp ((lg_cmp_le _ _).mp c68)
              refine lv_aload_n hx hb dX8_put_77 rfl (lv_at hl 1 rfl) ?_
              refine lv_iload hx hb dX8_put_78 (lv_at hl 0 rfl) ?_
              refine lv_lload_n hx hb dX8_put_80 rfl (lv_at hl 2 rfl) ?_
              refine lv_lload_n hx hb dX8_put_81 rfl (lv_at hl 3 rfl) ?_
              refine q_callS (rest := []) C (c_X8_insert l D cy N0 (qRh cy h a ka va kd (nI n) sm dp rw f g) a ka va kd sm dp rw n f g (i + 1) k0 v0 (by rw [hR.same]; exact hR) (by omega) (by omega)) kX8_insert g1282 g1283 hP hS (by first | decide | omega) hl.1 rfl (by decide) (by first | decide | omega) dX8_put_82 (fun q ce E h' H1 locs1 hE => hE.elim) (fun v hh8 H locs hq hP hS => ?_)
              obtain ⟨rfl, rfl⟩ := hq
              rw [hR.again] at hP
              exact q_vret C hP hS ⟨rfl, Or.inr ⟨Or.inr rfl, (i + 1), by omega, fun _ => ⟨Or.inr (by simpa using c68), kk⟩, fun z => absurd hk9 z, rfl⟩⟩ (by omega) dX8_put_85
            · replace c68 : ¬ (f ((i + 1) - 1)).toInt ≤ k0.toInt := fun zq => c68 ((lg_cmp_le _ _).mpr (Int64.le_iff_toInt_le.mpr zq))
              refine lv_iinc (v := nI i) (lv' := [(6, .int (nI i)), (0, .ref a), (1, .long k0), (3, .long v0)]) hx hb dX8_put_71 hl (k := 0) rfl (q_decN i) (by decide) rfl (fun ls hl => ?_)
              refine lv_goto (tgt := 52) hx hb dX8_put_74 (by decide) ?_
              exact ihl H locs ls i (by omega) (lv_sub hl [0, 1, 2, 3] rfl) (by omega) (fun q h1 h2 => if e : q = i then by (subst e; exact by simpa using c68) else kk q (by omega) h2) hP hS
      · refine lv_aload_n hx hb dX8_put_44 rfl (lv_at hl 1 rfl) ?_
        refine q_get C hP fa rfl inX7 2 (by decide) g1142 rfl dX8_put_45 ?_
        refine lv_iconst (v := 5) hx hb dX8_put_48 (by decide) ?_
        refine lv_icmp_ne (tgt := 77) hx hb dX8_put_49 (by decide) (fun c49 => ?_) (fun c49 => ?_)
        · refine lv_aload_n hx hb dX8_put_77 rfl (lv_at hl 1 rfl) ?_
          refine lv_iload hx hb dX8_put_78 (lv_at hl 0 rfl) ?_
          refine lv_lload_n hx hb dX8_put_80 rfl (lv_at hl 2 rfl) ?_
          refine lv_lload_n hx hb dX8_put_81 rfl (lv_at hl 3 rfl) ?_
          refine q_callS (rest := []) C (c_X8_insert l D cy N0 (qRh cy h a ka va kd (nI n) sm dp rw f g) a ka va kd sm dp rw n f g n k0 v0 (by rw [hR.same]; exact hR) (by omega) (by omega)) kX8_insert g1282 g1283 hP hS (by first | decide | omega) hl.1 rfl (by decide) (by first | decide | omega) dX8_put_82 (fun q ce E h' H1 locs1 hE => hE.elim) (fun v hh9 H locs hq hP hS => ?_)
          obtain ⟨rfl, rfl⟩ := hq
          rw [hR.again] at hP
          exact q_vret C hP hS ⟨rfl, Or.inr ⟨Or.inr rfl, n, by omega, fun z => absurd z (fun z => z.elim c41 c49), fun _ => rfl, rfl⟩⟩ (by omega) dX8_put_85
        · have hk9 : kd = 3 ∨ kd = 5 := by first | exact Or.inl c41 | exact Or.inr c49
          refine (?_ : ∀ (t : Nat) (H : Heap) (locs : List Loc) (ls : Array Slot) (i : Nat), i < t → lv_has ls 7 [(6, .int (nI i)), (0, .ref a), (1, .long k0), (3, .long v0)] → i ≤ n → (∀ q, i ≤ q → q < n → k0.toInt < (f q).toInt) → qP D N0 (qRh cy h a ka va kd (nI n) sm dp rw (f) (g)) H → va_S (qA N0) s.heap H locs → W p l e _ s m _ below meth c H locs 0 0 _ (F0 m 52 ls [])) _ _ _ ls n (Nat.lt_succ_self _) (lv_sub hl [0, 1, 2, 3] rfl) (Nat.le_refl _) (fun q h1 h2 => absurd h2 (Nat.not_lt.mpr h1)) hP hS
          clear hl hP hS
          intro t
          induction t with
          | zero => intro H locs ls i ht; exact absurd ht (Nat.not_lt_zero _)
          | succ t ihl =>
            intro H locs ls i ht hl hi kk hP hS
            have hR9 := hR.new (kd2 := kd) (n2 := (nI n)) (sm2 := sm) (dp2 := dp) (rw2 := rw) (f2 := f) (g2 := g)
            have fa := hR9.2.2.2.1
            have fk := hR9.2.2.2.2.1
            have fv := hR9.2.2.2.2.2
            unfold qRb at fa
            unfold qJr at fk fv
            refine lv_iload hx hb dX8_put_52 (lv_at hl 0 rfl) ?_
            refine lv_if_le (tgt := 77) hx hb dX8_put_54 (by decide) (fun c54 => ?_) (fun c54 => ?_)
            · replace c54 : i ≤ 0 := (nI_leI (a := i) (b := 0) (by omega) (by omega)).mp c54
              refine lv_aload_n hx hb dX8_put_77 rfl (lv_at hl 1 rfl) ?_
              refine lv_iload hx hb dX8_put_78 (lv_at hl 0 rfl) ?_
              refine lv_lload_n hx hb dX8_put_80 rfl (lv_at hl 2 rfl) ?_
              refine lv_lload_n hx hb dX8_put_81 rfl (lv_at hl 3 rfl) ?_
              refine q_callS (rest := []) C (c_X8_insert l D cy N0 (qRh cy h a ka va kd (nI n) sm dp rw f g) a ka va kd sm dp rw n f g i k0 v0 (by rw [hR.same]; exact hR) (by omega) (by omega)) kX8_insert g1282 g1283 hP hS (by first | decide | omega) hl.1 rfl (by decide) (by first | decide | omega) dX8_put_82 (fun q ce E h' H1 locs1 hE => hE.elim) (fun v hh10 H locs hq hP hS => ?_)
              obtain ⟨rfl, rfl⟩ := hq
              rw [hR.again] at hP
              exact q_vret C hP hS ⟨rfl, Or.inr ⟨Or.inr rfl, i, by omega, fun _ => ⟨Or.inl (by omega), kk⟩, fun z => absurd hk9 z, rfl⟩⟩ (by omega) dX8_put_85
            · replace c54 : ¬ i ≤ 0 := fun zq => c54 ((nI_leI (a := i) (b := 0) (by omega) (by omega)).mpr zq)
              obtain ⟨i, rfl⟩ : ∃ i9, i = i9 + 1 := ⟨i - 1, by omega⟩
              refine lv_aload_n hx hb dX8_put_57 rfl (lv_at hl 1 rfl) ?_
              refine q_get C hP fa rfl inX7 0 (by decide) g1138 rfl dX8_put_58 ?_
              refine lv_iload hx hb dX8_put_61 (lv_at hl 0 rfl) ?_
              refine lv_iconst (v := nI 1) hx hb dX8_put_63 (by decide) ?_
              refine q_isubN hx hb dX8_put_64 (by omega) ?_
              refine q_laldN C hP fk (by omega) (by omega) dX8_put_65 ?_
              refine lv_lload_n hx hb dX8_put_66 rfl (lv_at hl 2 rfl) ?_
              refine W.lcmp hx hb dX8_put_67 ?_
              refine lv_if_le (tgt := 77) hx hb dX8_put_68 (by decide) (fun c68 => ?_) (fun c68 => ?_)
              · replace c68 : (f ((i + 1) - 1)).toInt ≤ k0.toInt := Int64.le_iff_toInt_le.mp ((lg_cmp_le _ _).mp c68)
                refine lv_aload_n hx hb dX8_put_77 rfl (lv_at hl 1 rfl) ?_
                refine lv_iload hx hb dX8_put_78 (lv_at hl 0 rfl) ?_
                refine lv_lload_n hx hb dX8_put_80 rfl (lv_at hl 2 rfl) ?_
                refine lv_lload_n hx hb dX8_put_81 rfl (lv_at hl 3 rfl) ?_
                refine q_callS (rest := []) C (c_X8_insert l D cy N0 (qRh cy h a ka va kd (nI n) sm dp rw f g) a ka va kd sm dp rw n f g (i + 1) k0 v0 (by rw [hR.same]; exact hR) (by omega) (by omega)) kX8_insert g1282 g1283 hP hS (by first | decide | omega) hl.1 rfl (by decide) (by first | decide | omega) dX8_put_82 (fun q ce E h' H1 locs1 hE => hE.elim) (fun v hh11 H locs hq hP hS => ?_)
                obtain ⟨rfl, rfl⟩ := hq
                rw [hR.again] at hP
                exact q_vret C hP hS ⟨rfl, Or.inr ⟨Or.inr rfl, (i + 1), by omega, fun _ => ⟨Or.inr (by simpa using c68), kk⟩, fun z => absurd hk9 z, rfl⟩⟩ (by omega) dX8_put_85
              · replace c68 : ¬ (f ((i + 1) - 1)).toInt ≤ k0.toInt := fun zq => c68 ((lg_cmp_le _ _).mpr (Int64.le_iff_toInt_le.mpr zq))
                refine lv_iinc (v := nI i) (lv' := [(6, .int (nI i)), (0, .ref a), (1, .long k0), (3, .long v0)]) hx hb dX8_put_71 hl (k := 0) rfl (q_decN i) (by decide) rfl (fun ls hl => ?_)
                refine lv_goto (tgt := 52) hx hb dX8_put_74 (by decide) ?_
                exact ihl H locs ls i (by omega) (lv_sub hl [0, 1, 2, 3] rfl) (by omega) (fun q h1 h2 => if e : q = i then by (subst e; exact by simpa using c68) else kk q (by omega) h2) hP hS

theorem dX8_crowded_0 : decode cX8_crowded 0 = .ok (.iconst 0, 1) := by decide +kernel
theorem dX8_crowded_1 : decode cX8_crowded 1 = .ok (.istore 4, 2) := by decide +kernel
theorem dX8_crowded_3 : decode cX8_crowded 3 = .ok (.iconst 0, 1) := by decide +kernel
theorem dX8_crowded_4 : decode cX8_crowded 4 = .ok (.istore 5, 2) := by decide +kernel
theorem dX8_crowded_6 : decode cX8_crowded 6 = .ok (.iload 5, 2) := by decide +kernel
theorem dX8_crowded_8 : decode cX8_crowded 8 = .ok (.aload_n 1, 1) := by decide +kernel
theorem dX8_crowded_9 : decode cX8_crowded 9 = .ok (.getfield 78, 3) := by decide +kernel
theorem dX8_crowded_12 : decode cX8_crowded 12 = .ok (.if_icmp .ge 31, 3) := by decide +kernel
theorem dX8_crowded_15 : decode cX8_crowded 15 = .ok (.aload_n 0, 1) := by decide +kernel
theorem dX8_crowded_16 : decode cX8_crowded 16 = .ok (.aload_n 1, 1) := by decide +kernel
theorem dX8_crowded_17 : decode cX8_crowded 17 = .ok (.getfield 90, 3) := by decide +kernel
theorem dX8_crowded_20 : decode cX8_crowded 20 = .ok (.iload 5, 2) := by decide +kernel
theorem dX8_crowded_22 : decode cX8_crowded 22 = .ok (.laload, 1) := by decide +kernel
theorem dX8_crowded_23 : decode cX8_crowded 23 = .ok (.invokevirtual 120, 3) := by decide +kernel
theorem dX8_crowded_26 : decode cX8_crowded 26 = .ok (.aload_n 0, 1) := by decide +kernel
theorem dX8_crowded_27 : decode cX8_crowded 27 = .ok (.lload_n 2, 1) := by decide +kernel
theorem dX8_crowded_28 : decode cX8_crowded 28 = .ok (.invokevirtual 120, 3) := by decide +kernel
theorem dX8_crowded_31 : decode cX8_crowded 31 = .ok (.if_icmp .ne 6, 3) := by decide +kernel
theorem dX8_crowded_34 : decode cX8_crowded 34 = .ok (.iinc 4 1, 3) := by decide +kernel
theorem dX8_crowded_37 : decode cX8_crowded 37 = .ok (.iinc 5 1, 3) := by decide +kernel
theorem dX8_crowded_40 : decode cX8_crowded 40 = .ok (.goto (-34), 3) := by decide +kernel
theorem dX8_crowded_43 : decode cX8_crowded 43 = .ok (.iload 4, 2) := by decide +kernel
theorem dX8_crowded_45 : decode cX8_crowded 45 = .ok (.bipush 16, 2) := by decide +kernel
theorem dX8_crowded_47 : decode cX8_crowded 47 = .ok (.if_icmp .le 23, 3) := by decide +kernel
theorem dX8_crowded_50 : decode cX8_crowded 50 = .ok (.aload_n 1, 1) := by decide +kernel
theorem dX8_crowded_51 : decode cX8_crowded 51 = .ok (.getfield 75, 3) := by decide +kernel
theorem dX8_crowded_54 : decode cX8_crowded 54 = .ok (.iconst 1, 1) := by decide +kernel
theorem dX8_crowded_55 : decode cX8_crowded 55 = .ok (.if_icmp .eq 11, 3) := by decide +kernel
theorem dX8_crowded_58 : decode cX8_crowded 58 = .ok (.aload_n 1, 1) := by decide +kernel
theorem dX8_crowded_59 : decode cX8_crowded 59 = .ok (.getfield 75, 3) := by decide +kernel
theorem dX8_crowded_62 : decode cX8_crowded 62 = .ok (.iconst 2, 1) := by decide +kernel
theorem dX8_crowded_63 : decode cX8_crowded 63 = .ok (.if_icmp .ne 7, 3) := by decide +kernel
theorem dX8_crowded_66 : decode cX8_crowded 66 = .ok (.iconst 1, 1) := by decide +kernel
theorem dX8_crowded_67 : decode cX8_crowded 67 = .ok (.goto 4, 3) := by decide +kernel
theorem dX8_crowded_70 : decode cX8_crowded 70 = .ok (.iconst 0, 1) := by decide +kernel
theorem dX8_crowded_71 : decode cX8_crowded 71 = .ok (.ireturn, 1) := by decide +kernel
set_option maxRecDepth 100000 in
set_option maxHeartbeats 4000000 in
theorem c_X8_crowded (l : Launch) (D : va_G) (cy : Nat → ClassId) (N0 : Nat) (h : qH) (y ms mb mw od pt fi re rc rs so ot cn la ro : Nat) (gr cd ca mv ct fau cs ce rn : Int32) (a ka va : Nat) (kd sm dp rw : Int32) (n : Nat) (f g : Nat → Int64) (k0 : Int64) (hY : h y = some (.inr (8, [.ref ms, .ref mb, .ref mw, .int gr, .int cd, .int ca, .int mv, .ref od, .ref pt, .int ct, .int fau, .ref fi, .ref re, .int cs, .ref rc, .ref rs, .ref so, .ref ot, .ref cn, .ref la, .int ce, .ref ro, .int rn]))) (hR : qRw cy h a ka va kd (nI n) sm dp rw f g) (hn : n ≤ 1001) : qC l D cy N0 yX8_crowded cX8_crowded 6 (some .boolean) 1 22 0 0 [.ref y, .ref a, .long k0] h (fun v h' => v = some (.int (nI (if 16 < qCt (fun q => decide (qHsh gr (f q) = qHsh gr k0)) n ∧ (kd = 1 ∨ kd = 2) then 1 else 0))) ∧ h = h') (fun E h' => False) := by
  refine q_ofW (by decide) (by exact Nat.le_of_ble_eq_true rfl) ?_
  intro p e s m below meth c ls C hP hl
  have hx := C.1
  have hb := C.2.1
  have hS : va_S (qA N0) s.heap s.heap [] := va_S.rf
  have hl : lv_has ls 6 [(0, .ref y), (1, .ref a), (2, .long k0)] := hl
  have hle : qle h h := qle_rf
  have fa := hR.2.2.2.1
  have fk := hR.2.2.2.2.1
  have fv := hR.2.2.2.2.2
  unfold qRb at fa
  unfold qJr at fk fv
  refine lv_iconst (v := nI 0) hx hb dX8_crowded_0 (by decide) ?_
  refine lv_istore (lv' := [(4, .int (nI 0)), (0, .ref y), (1, .ref a), (2, .long k0)]) hx hb dX8_crowded_1 hl (by decide) rfl (fun ls hl => ?_)
  refine lv_iconst (v := nI 0) hx hb dX8_crowded_3 (by decide) ?_
  refine lv_istore (lv' := [(5, .int (nI 0)), (4, .int (nI 0)), (0, .ref y), (1, .ref a), (2, .long k0)]) hx hb dX8_crowded_4 hl (by decide) rfl (fun ls hl => ?_)
  refine (?_ : ∀ (t : Nat) (H : Heap) (locs : List Loc) (ls : Array Slot) (j : Nat), n - j < t → lv_has ls 6 [(5, .int (nI j)), (4, .int (nI (qCt (fun q => decide (qHsh gr (f q) = qHsh gr k0)) j))), (0, .ref y), (1, .ref a), (2, .long k0)] → j ≤ n → qP D N0 h H → va_S (qA N0) s.heap H locs → W p l e _ s m _ below meth c H locs 0 0 _ (F0 m 6 ls [])) _ s.heap [] ls 0 (Nat.lt_succ_self _) (lv_sub hl [0, 1, 2, 3, 4] rfl) (Nat.zero_le _) hP hS
  clear hl hP hS
  intro t
  induction t with
  | zero => intro H locs ls j ht; exact absurd ht (Nat.not_lt_zero _)
  | succ t ihl =>
    intro H locs ls j ht hl hj hP hS
    have hc9 := qCt_le (P := (fun q => decide (qHsh gr (f q) = qHsh gr k0))) j
    refine lv_iload hx hb dX8_crowded_6 (lv_at hl 0 rfl) ?_
    refine lv_aload_n hx hb dX8_crowded_8 rfl (lv_at hl 3 rfl) ?_
    refine q_get C hP fa rfl inX7 3 (by decide) g1143 rfl dX8_crowded_9 ?_
    refine lv_icmp_ge (tgt := 43) hx hb dX8_crowded_12 (by decide) (fun c12 => ?_) (fun c12 => ?_)
    · replace c12 : n ≤ j := (nI_leI (a := n) (b := j) (by omega) (by omega)).mp c12
      refine lv_iload hx hb dX8_crowded_43 (lv_at hl 1 rfl) ?_
      refine lv_bipush (v := nI 16) hx hb dX8_crowded_45 (by decide) ?_
      refine lv_icmp_le (tgt := 70) hx hb dX8_crowded_47 (by decide) (fun c47 => ?_) (fun c47 => ?_)
      · replace c47 : (qCt (fun q => decide (qHsh gr (f q) = qHsh gr k0)) j) ≤ 16 := (nI_leI (a := (qCt (fun q => decide (qHsh gr (f q) = qHsh gr k0)) j)) (b := 16) (by omega) (by omega)).mp c47
        refine lv_iconst (v := nI 0) hx hb dX8_crowded_70 (by decide) ?_
        exact q_zret C hP hS (Or.inl rfl) ⟨by rw [if_neg (fun z => by first | (have := z.1; rw [show n = j by omega] at this; omega) | exact z.2.elim c55 c63)], rfl⟩ (by omega) dX8_crowded_71
      · replace c47 : ¬ (qCt (fun q => decide (qHsh gr (f q) = qHsh gr k0)) j) ≤ 16 := fun zq => c47 ((nI_leI (a := (qCt (fun q => decide (qHsh gr (f q) = qHsh gr k0)) j)) (b := 16) (by omega) (by omega)).mpr zq)
        refine lv_aload_n hx hb dX8_crowded_50 rfl (lv_at hl 3 rfl) ?_
        refine q_get C hP fa rfl inX7 2 (by decide) g1142 rfl dX8_crowded_51 ?_
        refine lv_iconst (v := 1) hx hb dX8_crowded_54 (by decide) ?_
        refine lv_icmp_eq (tgt := 66) hx hb dX8_crowded_55 (by decide) (fun c55 => ?_) (fun c55 => ?_)
        · refine lv_iconst (v := nI 1) hx hb dX8_crowded_66 (by decide) ?_
          refine lv_goto (tgt := 71) hx hb dX8_crowded_67 (by decide) ?_
          exact q_zret C hP hS (Or.inr rfl) ⟨by rw [if_pos ⟨by rw [show n = j by omega]; omega, by first | exact Or.inl c55 | exact Or.inr c63⟩], rfl⟩ (by omega) dX8_crowded_71
        · refine lv_aload_n hx hb dX8_crowded_58 rfl (lv_at hl 3 rfl) ?_
          refine q_get C hP fa rfl inX7 2 (by decide) g1142 rfl dX8_crowded_59 ?_
          refine lv_iconst (v := 2) hx hb dX8_crowded_62 (by decide) ?_
          refine lv_icmp_ne (tgt := 70) hx hb dX8_crowded_63 (by decide) (fun c63 => ?_) (fun c63 => ?_)
          · refine lv_iconst (v := nI 0) hx hb dX8_crowded_70 (by decide) ?_
            exact q_zret C hP hS (Or.inl rfl) ⟨by rw [if_neg (fun z => by first | (have := z.1; rw [show n = j by omega] at this; omega) | exact z.2.elim c55 c63)], rfl⟩ (by omega) dX8_crowded_71
          · refine lv_iconst (v := nI 1) hx hb dX8_crowded_66 (by decide) ?_
            refine lv_goto (tgt := 71) hx hb dX8_crowded_67 (by decide) ?_
            exact q_zret C hP hS (Or.inr rfl) ⟨by rw [if_pos ⟨by rw [show n = j by omega]; omega, by first | exact Or.inl c55 | exact Or.inr c63⟩], rfl⟩ (by omega) dX8_crowded_71
    · replace c12 : ¬ n ≤ j := fun zq => c12 ((nI_leI (a := n) (b := j) (by omega) (by omega)).mpr zq)
      refine lv_aload_n hx hb dX8_crowded_15 rfl (lv_at hl 2 rfl) ?_
      refine lv_aload_n hx hb dX8_crowded_16 rfl (lv_at hl 3 rfl) ?_
      refine q_get C hP fa rfl inX7 0 (by decide) g1138 rfl dX8_crowded_17 ?_
      refine lv_iload hx hb dX8_crowded_20 (lv_at hl 0 rfl) ?_
      refine q_laldN C hP fk (by omega) (by omega) dX8_crowded_22 ?_
      refine q_callV (rest := []) C (c_X8_hash l D cy N0 h y ms mb mw od pt fi re rc rs so ot cn la ro gr cd ca mv ct fau cs ce rn (f j) hY) kX8_hash g1289 g1291 rfl gp44 g4 hP hS hY (by first | decide | omega) hl.1 rfl (by decide) (by first | decide | omega) dX8_crowded_23 (fun q ce E h' H1 locs1 hE => hE.elim) (fun v hh1 H locs hq hP hS => ?_)
      obtain ⟨rfl, rfl⟩ := hq
      refine lv_aload_n hx hb dX8_crowded_26 rfl (lv_at hl 2 rfl) ?_
      refine lv_lload_n hx hb dX8_crowded_27 rfl (lv_at hl 4 rfl) ?_
      refine q_callV (rest := [.int (qHsh gr (f j))]) C (c_X8_hash l D cy N0 h y ms mb mw od pt fi re rc rs so ot cn la ro gr cd ca mv ct fau cs ce rn k0 hY) kX8_hash g1289 g1291 rfl gp44 g4 hP hS hY (by first | decide | omega) hl.1 rfl (by simp [q_catrf, q_cati, q_catl, q_cata, q_catn]) (by first | decide | omega) dX8_crowded_28 (fun q ce E h' H1 locs1 hE => hE.elim) (fun v hh2 H locs hq hP hS => ?_)
      obtain ⟨rfl, rfl⟩ := hq
      refine lv_icmp_ne (tgt := 37) hx hb dX8_crowded_31 (by decide) (fun c31 => ?_) (fun c31 => ?_)
      · refine lv_iinc (v := nI (j + 1)) (lv' := [(5, .int (nI (j + 1))), (4, .int (nI (qCt (fun q => decide (qHsh gr (f q) = qHsh gr k0)) j))), (0, .ref y), (1, .ref a), (2, .long k0)]) hx hb dX8_crowded_37 hl (k := 0) rfl (nI_1 j) (by decide) rfl (fun ls hl => ?_)
        refine lv_goto (tgt := 6) hx hb dX8_crowded_40 (by decide) ?_
        exact ihl H locs ls (j + 1) (by omega) (by rw [show qCt (fun q => decide (qHsh gr (f q) = qHsh gr k0)) (j + 1) = qCt (fun q => decide (qHsh gr (f q) = qHsh gr k0)) j + 0 from (by show qCt _ j + (if _ then 1 else 0) = _; rw [if_neg (by simpa using (by assumption : ¬ qHsh gr (f j) = qHsh gr k0))])]; exact lv_sub hl [0, 1, 2, 3, 4] rfl) (by omega) hP hS
      · refine lv_iinc (v := nI ((qCt (fun q => decide (qHsh gr (f q) = qHsh gr k0)) j) + 1)) (lv' := [(4, .int (nI ((qCt (fun q => decide (qHsh gr (f q) = qHsh gr k0)) j) + 1))), (5, .int (nI j)), (0, .ref y), (1, .ref a), (2, .long k0)]) hx hb dX8_crowded_34 hl (k := 1) rfl (nI_1 (qCt (fun q => decide (qHsh gr (f q) = qHsh gr k0)) j)) (by decide) rfl (fun ls hl => ?_)
        refine lv_iinc (v := nI (j + 1)) (lv' := [(5, .int (nI (j + 1))), (4, .int (nI ((qCt (fun q => decide (qHsh gr (f q) = qHsh gr k0)) j) + 1))), (0, .ref y), (1, .ref a), (2, .long k0)]) hx hb dX8_crowded_37 hl (k := 1) rfl (nI_1 j) (by decide) rfl (fun ls hl => ?_)
        refine lv_goto (tgt := 6) hx hb dX8_crowded_40 (by decide) ?_
        exact ihl H locs ls (j + 1) (by omega) (by rw [show qCt (fun q => decide (qHsh gr (f q) = qHsh gr k0)) (j + 1) = qCt (fun q => decide (qHsh gr (f q) = qHsh gr k0)) j + 1 from (by show qCt _ j + (if _ then 1 else 0) = _; rw [if_pos (decide_eq_true (by assumption))])]; exact lv_sub hl [0, 1, 2, 3, 4] rfl) (by omega) hP hS

theorem dX8_full_0 : decode cX8_full 0 = .ok (.iconst 0, 1) := by decide +kernel
theorem dX8_full_1 : decode cX8_full 1 = .ok (.istore 4, 2) := by decide +kernel
theorem dX8_full_3 : decode cX8_full 3 = .ok (.iconst 0, 1) := by decide +kernel
theorem dX8_full_4 : decode cX8_full 4 = .ok (.istore 5, 2) := by decide +kernel
theorem dX8_full_6 : decode cX8_full 6 = .ok (.iload 5, 2) := by decide +kernel
theorem dX8_full_8 : decode cX8_full 8 = .ok (.aload_n 1, 1) := by decide +kernel
theorem dX8_full_9 : decode cX8_full 9 = .ok (.getfield 78, 3) := by decide +kernel
theorem dX8_full_12 : decode cX8_full 12 = .ok (.if_icmp .ge 31, 3) := by decide +kernel
theorem dX8_full_15 : decode cX8_full 15 = .ok (.aload_n 0, 1) := by decide +kernel
theorem dX8_full_16 : decode cX8_full 16 = .ok (.aload_n 1, 1) := by decide +kernel
theorem dX8_full_17 : decode cX8_full 17 = .ok (.getfield 90, 3) := by decide +kernel
theorem dX8_full_20 : decode cX8_full 20 = .ok (.iload 5, 2) := by decide +kernel
theorem dX8_full_22 : decode cX8_full 22 = .ok (.laload, 1) := by decide +kernel
theorem dX8_full_23 : decode cX8_full 23 = .ok (.invokevirtual 120, 3) := by decide +kernel
theorem dX8_full_26 : decode cX8_full 26 = .ok (.aload_n 0, 1) := by decide +kernel
theorem dX8_full_27 : decode cX8_full 27 = .ok (.lload_n 2, 1) := by decide +kernel
theorem dX8_full_28 : decode cX8_full 28 = .ok (.invokevirtual 120, 3) := by decide +kernel
theorem dX8_full_31 : decode cX8_full 31 = .ok (.if_icmp .ne 6, 3) := by decide +kernel
theorem dX8_full_34 : decode cX8_full 34 = .ok (.iinc 4 1, 3) := by decide +kernel
theorem dX8_full_37 : decode cX8_full 37 = .ok (.iinc 5 1, 3) := by decide +kernel
theorem dX8_full_40 : decode cX8_full 40 = .ok (.goto (-34), 3) := by decide +kernel
theorem dX8_full_43 : decode cX8_full 43 = .ok (.iload 4, 2) := by decide +kernel
theorem dX8_full_45 : decode cX8_full 45 = .ok (.bipush 15, 2) := by decide +kernel
theorem dX8_full_47 : decode cX8_full 47 = .ok (.if_icmp .le 7, 3) := by decide +kernel
theorem dX8_full_50 : decode cX8_full 50 = .ok (.iconst 1, 1) := by decide +kernel
theorem dX8_full_51 : decode cX8_full 51 = .ok (.goto 4, 3) := by decide +kernel
theorem dX8_full_54 : decode cX8_full 54 = .ok (.iconst 0, 1) := by decide +kernel
theorem dX8_full_55 : decode cX8_full 55 = .ok (.ireturn, 1) := by decide +kernel
set_option maxRecDepth 100000 in
set_option maxHeartbeats 4000000 in
theorem c_X8_full (l : Launch) (D : va_G) (cy : Nat → ClassId) (N0 : Nat) (h : qH) (y ms mb mw od pt fi re rc rs so ot cn la ro : Nat) (gr cd ca mv ct fau cs ce rn : Int32) (a ka va : Nat) (kd sm dp rw : Int32) (n : Nat) (f g : Nat → Int64) (k0 : Int64) (hY : h y = some (.inr (8, [.ref ms, .ref mb, .ref mw, .int gr, .int cd, .int ca, .int mv, .ref od, .ref pt, .int ct, .int fau, .ref fi, .ref re, .int cs, .ref rc, .ref rs, .ref so, .ref ot, .ref cn, .ref la, .int ce, .ref ro, .int rn]))) (hR : qRw cy h a ka va kd (nI n) sm dp rw f g) (hn : n ≤ 1001) : qC l D cy N0 yX8_full cX8_full 6 (some .boolean) 1 22 0 0 [.ref y, .ref a, .long k0] h (fun v h' => v = some (.int (nI (if 15 < qCt (fun q => decide (qHsh gr (f q) = qHsh gr k0)) n then 1 else 0))) ∧ h = h') (fun E h' => False) := by
  refine q_ofW (by decide) (by exact Nat.le_of_ble_eq_true rfl) ?_
  intro p e s m below meth c ls C hP hl
  have hx := C.1
  have hb := C.2.1
  have hS : va_S (qA N0) s.heap s.heap [] := va_S.rf
  have hl : lv_has ls 6 [(0, .ref y), (1, .ref a), (2, .long k0)] := hl
  have hle : qle h h := qle_rf
  have fa := hR.2.2.2.1
  have fk := hR.2.2.2.2.1
  have fv := hR.2.2.2.2.2
  unfold qRb at fa
  unfold qJr at fk fv
  refine lv_iconst (v := nI 0) hx hb dX8_full_0 (by decide) ?_
  refine lv_istore (lv' := [(4, .int (nI 0)), (0, .ref y), (1, .ref a), (2, .long k0)]) hx hb dX8_full_1 hl (by decide) rfl (fun ls hl => ?_)
  refine lv_iconst (v := nI 0) hx hb dX8_full_3 (by decide) ?_
  refine lv_istore (lv' := [(5, .int (nI 0)), (4, .int (nI 0)), (0, .ref y), (1, .ref a), (2, .long k0)]) hx hb dX8_full_4 hl (by decide) rfl (fun ls hl => ?_)
  refine (?_ : ∀ (t : Nat) (H : Heap) (locs : List Loc) (ls : Array Slot) (j : Nat), n - j < t → lv_has ls 6 [(5, .int (nI j)), (4, .int (nI (qCt (fun q => decide (qHsh gr (f q) = qHsh gr k0)) j))), (0, .ref y), (1, .ref a), (2, .long k0)] → j ≤ n → qP D N0 h H → va_S (qA N0) s.heap H locs → W p l e _ s m _ below meth c H locs 0 0 _ (F0 m 6 ls [])) _ s.heap [] ls 0 (Nat.lt_succ_self _) (lv_sub hl [0, 1, 2, 3, 4] rfl) (Nat.zero_le _) hP hS
  clear hl hP hS
  intro t
  induction t with
  | zero => intro H locs ls j ht; exact absurd ht (Nat.not_lt_zero _)
  | succ t ihl =>
    intro H locs ls j ht hl hj hP hS
    have hc9 := qCt_le (P := (fun q => decide (qHsh gr (f q) = qHsh gr k0))) j
    refine lv_iload hx hb dX8_full_6 (lv_at hl 0 rfl) ?_
    refine lv_aload_n hx hb dX8_full_8 rfl (lv_at hl 3 rfl) ?_
    refine q_get C hP fa rfl inX7 3 (by decide) g1143 rfl dX8_full_9 ?_
    refine lv_icmp_ge (tgt := 43) hx hb dX8_full_12 (by decide) (fun c12 => ?_) (fun c12 => ?_)
    · replace c12 : n ≤ j := (nI_leI (a := n) (b := j) (by omega) (by omega)).mp c12
      refine lv_iload hx hb dX8_full_43 (lv_at hl 1 rfl) ?_
      refine lv_bipush (v := nI 15) hx hb dX8_full_45 (by decide) ?_
      refine lv_icmp_le (tgt := 54) hx hb dX8_full_47 (by decide) (fun c47 => ?_) (fun c47 => ?_)
      · replace c47 : (qCt (fun q => decide (qHsh gr (f q) = qHsh gr k0)) j) ≤ 15 := (nI_leI (a := (qCt (fun q => decide (qHsh gr (f q) = qHsh gr k0)) j)) (b := 15) (by omega) (by omega)).mp c47
        refine lv_iconst (v := nI 0) hx hb dX8_full_54 (by decide) ?_
        exact q_zret C hP hS (Or.inl rfl) ⟨by rw [if_neg (by rw [show n = j by omega]; omega)], rfl⟩ (by omega) dX8_full_55
      · replace c47 : ¬ (qCt (fun q => decide (qHsh gr (f q) = qHsh gr k0)) j) ≤ 15 := fun zq => c47 ((nI_leI (a := (qCt (fun q => decide (qHsh gr (f q) = qHsh gr k0)) j)) (b := 15) (by omega) (by omega)).mpr zq)
        refine lv_iconst (v := nI 1) hx hb dX8_full_50 (by decide) ?_
        refine lv_goto (tgt := 55) hx hb dX8_full_51 (by decide) ?_
        exact q_zret C hP hS (Or.inr rfl) ⟨by rw [if_pos (by rw [show n = j by omega]; omega)], rfl⟩ (by omega) dX8_full_55
    · replace c12 : ¬ n ≤ j := fun zq => c12 ((nI_leI (a := n) (b := j) (by omega) (by omega)).mpr zq)
      refine lv_aload_n hx hb dX8_full_15 rfl (lv_at hl 2 rfl) ?_
      refine lv_aload_n hx hb dX8_full_16 rfl (lv_at hl 3 rfl) ?_
      refine q_get C hP fa rfl inX7 0 (by decide) g1138 rfl dX8_full_17 ?_
      refine lv_iload hx hb dX8_full_20 (lv_at hl 0 rfl) ?_
      refine q_laldN C hP fk (by omega) (by omega) dX8_full_22 ?_
      refine q_callV (rest := []) C (c_X8_hash l D cy N0 h y ms mb mw od pt fi re rc rs so ot cn la ro gr cd ca mv ct fau cs ce rn (f j) hY) kX8_hash g1289 g1291 rfl gp44 g4 hP hS hY (by first | decide | omega) hl.1 rfl (by decide) (by first | decide | omega) dX8_full_23 (fun q ce E h' H1 locs1 hE => hE.elim) (fun v hh1 H locs hq hP hS => ?_)
      obtain ⟨rfl, rfl⟩ := hq
      refine lv_aload_n hx hb dX8_full_26 rfl (lv_at hl 2 rfl) ?_
      refine lv_lload_n hx hb dX8_full_27 rfl (lv_at hl 4 rfl) ?_
      refine q_callV (rest := [.int (qHsh gr (f j))]) C (c_X8_hash l D cy N0 h y ms mb mw od pt fi re rc rs so ot cn la ro gr cd ca mv ct fau cs ce rn k0 hY) kX8_hash g1289 g1291 rfl gp44 g4 hP hS hY (by first | decide | omega) hl.1 rfl (by simp [q_catrf, q_cati, q_catl, q_cata, q_catn]) (by first | decide | omega) dX8_full_28 (fun q ce E h' H1 locs1 hE => hE.elim) (fun v hh2 H locs hq hP hS => ?_)
      obtain ⟨rfl, rfl⟩ := hq
      refine lv_icmp_ne (tgt := 37) hx hb dX8_full_31 (by decide) (fun c31 => ?_) (fun c31 => ?_)
      · refine lv_iinc (v := nI (j + 1)) (lv' := [(5, .int (nI (j + 1))), (4, .int (nI (qCt (fun q => decide (qHsh gr (f q) = qHsh gr k0)) j))), (0, .ref y), (1, .ref a), (2, .long k0)]) hx hb dX8_full_37 hl (k := 0) rfl (nI_1 j) (by decide) rfl (fun ls hl => ?_)
        refine lv_goto (tgt := 6) hx hb dX8_full_40 (by decide) ?_
        exact ihl H locs ls (j + 1) (by omega) (by rw [show qCt (fun q => decide (qHsh gr (f q) = qHsh gr k0)) (j + 1) = qCt (fun q => decide (qHsh gr (f q) = qHsh gr k0)) j + 0 from (by show qCt _ j + (if _ then 1 else 0) = _; rw [if_neg (by simpa using (by assumption : ¬ qHsh gr (f j) = qHsh gr k0))])]; exact lv_sub hl [0, 1, 2, 3, 4] rfl) (by omega) hP hS
      · refine lv_iinc (v := nI ((qCt (fun q => decide (qHsh gr (f q) = qHsh gr k0)) j) + 1)) (lv' := [(4, .int (nI ((qCt (fun q => decide (qHsh gr (f q) = qHsh gr k0)) j) + 1))), (5, .int (nI j)), (0, .ref y), (1, .ref a), (2, .long k0)]) hx hb dX8_full_34 hl (k := 1) rfl (nI_1 (qCt (fun q => decide (qHsh gr (f q) = qHsh gr k0)) j)) (by decide) rfl (fun ls hl => ?_)
        refine lv_iinc (v := nI (j + 1)) (lv' := [(5, .int (nI (j + 1))), (4, .int (nI ((qCt (fun q => decide (qHsh gr (f q) = qHsh gr k0)) j) + 1))), (0, .ref y), (1, .ref a), (2, .long k0)]) hx hb dX8_full_37 hl (k := 1) rfl (nI_1 j) (by decide) rfl (fun ls hl => ?_)
        refine lv_goto (tgt := 6) hx hb dX8_full_40 (by decide) ?_
        exact ihl H locs ls (j + 1) (by omega) (by rw [show qCt (fun q => decide (qHsh gr (f q) = qHsh gr k0)) (j + 1) = qCt (fun q => decide (qHsh gr (f q) = qHsh gr k0)) j + 1 from (by show qCt _ j + (if _ then 1 else 0) = _; rw [if_pos (decide_eq_true (by assumption))])]; exact lv_sub hl [0, 1, 2, 3, 4] rfl) (by omega) hP hS
