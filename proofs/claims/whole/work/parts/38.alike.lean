theorem dX0_alike_0 : decode cX0_alike 0 = .ok (.aload_n 0, 1) := by decide +kernel
theorem dX0_alike_1 : decode cX0_alike 1 = .ok (.invokestatic 57, 3) := by decide +kernel
theorem dX0_alike_4 : decode cX0_alike 4 = .ok (.aload_n 1, 1) := by decide +kernel
theorem dX0_alike_5 : decode cX0_alike 5 = .ok (.invokestatic 57, 3) := by decide +kernel
theorem dX0_alike_8 : decode cX0_alike 8 = .ok (.if_icmp .eq 5, 3) := by decide +kernel
theorem dX0_alike_11 : decode cX0_alike 11 = .ok (.iconst 0, 1) := by decide +kernel
theorem dX0_alike_12 : decode cX0_alike 12 = .ok (.ireturn, 1) := by decide +kernel
theorem dX0_alike_13 : decode cX0_alike 13 = .ok (.iconst 0, 1) := by decide +kernel
theorem dX0_alike_14 : decode cX0_alike 14 = .ok (.istore_n 2, 1) := by decide +kernel
theorem dX0_alike_15 : decode cX0_alike 15 = .ok (.iload_n 2, 1) := by decide +kernel
theorem dX0_alike_16 : decode cX0_alike 16 = .ok (.aload_n 0, 1) := by decide +kernel
theorem dX0_alike_17 : decode cX0_alike 17 = .ok (.invokestatic 57, 3) := by decide +kernel
theorem dX0_alike_20 : decode cX0_alike 20 = .ok (.if_icmp .ge 59, 3) := by decide +kernel
theorem dX0_alike_23 : decode cX0_alike 23 = .ok (.aload_n 0, 1) := by decide +kernel
theorem dX0_alike_24 : decode cX0_alike 24 = .ok (.iload_n 2, 1) := by decide +kernel
theorem dX0_alike_25 : decode cX0_alike 25 = .ok (.invokestatic 50, 3) := by decide +kernel
theorem dX0_alike_28 : decode cX0_alike 28 = .ok (.astore_n 3, 1) := by decide +kernel
theorem dX0_alike_29 : decode cX0_alike 29 = .ok (.aload_n 1, 1) := by decide +kernel
theorem dX0_alike_30 : decode cX0_alike 30 = .ok (.iload_n 2, 1) := by decide +kernel
theorem dX0_alike_31 : decode cX0_alike 31 = .ok (.invokestatic 50, 3) := by decide +kernel
theorem dX0_alike_34 : decode cX0_alike 34 = .ok (.astore 4, 2) := by decide +kernel
theorem dX0_alike_36 : decode cX0_alike 36 = .ok (.aload_n 3, 1) := by decide +kernel
theorem dX0_alike_37 : decode cX0_alike 37 = .ok (.ifnull 34, 3) := by decide +kernel
theorem dX0_alike_40 : decode cX0_alike 40 = .ok (.aload 4, 2) := by decide +kernel
theorem dX0_alike_42 : decode cX0_alike 42 = .ok (.ifnull 29, 3) := by decide +kernel
theorem dX0_alike_45 : decode cX0_alike 45 = .ok (.aload_n 3, 1) := by decide +kernel
theorem dX0_alike_46 : decode cX0_alike 46 = .ok (.getfield 13, 3) := by decide +kernel
theorem dX0_alike_49 : decode cX0_alike 49 = .ok (.aload 4, 2) := by decide +kernel
theorem dX0_alike_51 : decode cX0_alike 51 = .ok (.getfield 13, 3) := by decide +kernel
theorem dX0_alike_54 : decode cX0_alike 54 = .ok (.lcmp, 1) := by decide +kernel
theorem dX0_alike_55 : decode cX0_alike 55 = .ok (.ifCond .ne 16, 3) := by decide +kernel
theorem dX0_alike_58 : decode cX0_alike 58 = .ok (.aload_n 3, 1) := by decide +kernel
theorem dX0_alike_59 : decode cX0_alike 59 = .ok (.getfield 17, 3) := by decide +kernel
theorem dX0_alike_62 : decode cX0_alike 62 = .ok (.aload 4, 2) := by decide +kernel
theorem dX0_alike_64 : decode cX0_alike 64 = .ok (.getfield 17, 3) := by decide +kernel
theorem dX0_alike_67 : decode cX0_alike 67 = .ok (.lcmp, 1) := by decide +kernel
theorem dX0_alike_68 : decode cX0_alike 68 = .ok (.ifCond .eq 5, 3) := by decide +kernel
theorem dX0_alike_71 : decode cX0_alike 71 = .ok (.iconst 0, 1) := by decide +kernel
theorem dX0_alike_72 : decode cX0_alike 72 = .ok (.ireturn, 1) := by decide +kernel
theorem dX0_alike_73 : decode cX0_alike 73 = .ok (.iinc 2 1, 3) := by decide +kernel
theorem dX0_alike_76 : decode cX0_alike 76 = .ok (.goto (-61), 3) := by decide +kernel
theorem dX0_alike_79 : decode cX0_alike 79 = .ok (.iconst 1, 1) := by decide +kernel
theorem dX0_alike_80 : decode cX0_alike 80 = .ok (.ireturn, 1) := by decide +kernel
set_option maxRecDepth 100000 in
set_option maxHeartbeats 4000000 in
theorem c_X0_alike (l : Launch) (D : va_G) (cy : Nat → ClassId) (N0 : Nat) (h : qH) (x : Option Nat) (y : Option Nat) (i j : Nat) (A B : qKV) (hA : qBr h i x A) (hB : qBr h j y B) (hL : A.length < 1000000) (hL2 : B.length < 1000000) : qC l D cy N0 yX0_alike cX0_alike 5 (some .boolean) 3 60 0 0 [va_rf x, va_rf y] h (fun v h' => v = some (.int (nI (if A = B then 1 else 0))) ∧ h = h') (fun E h' => False) := by
  refine q_ofW (by decide) (by simp [lg_sl, q_catrf, q_cati, q_catl, q_cata, q_catn]) ?_
  intro p e s m below meth c ls C hP hl
  have hx := C.1
  have hb := C.2.1
  have hS : va_S (qA N0) s.heap s.heap [] := va_S.rf
  have hl : lv_has ls 5 [(0, va_rf x), (1, va_rf y)] := by simpa [lv_args, q_catrf, q_cati, q_catl, q_cata, q_catn] using hl
  have hle : qle h h := qle_rf
  refine q_aload_n hx hb dX0_alike_0 rfl (lv_at hl 0 rfl) ?_
  refine q_callS (rest := []) C (c_X0_sizeOf l D cy N0 h x (nI (A.length)) hA.fiS) kX0_sizeOf g594 g227 hP hS (by first | decide | omega) hl.1 rfl (by decide) (by first | decide | omega) dX0_alike_1 (fun q ce E h' H1 locs1 hE => hE.elim) (fun v hh1 H locs hq hP hS => ?_)
  obtain ⟨rfl, rfl⟩ := hq
  refine q_aload_n hx hb dX0_alike_4 rfl (lv_at hl 1 rfl) ?_
  refine q_callS (rest := [.int (nI (A.length))]) C (c_X0_sizeOf l D cy N0 h y (nI (B.length)) hB.fiS) kX0_sizeOf g594 g227 hP hS (by first | decide | omega) hl.1 rfl (by simp [q_catrf, q_cati, q_catl, q_cata, q_catn]) (by first | decide | omega) dX0_alike_5 (fun q ce E h' H1 locs1 hE => hE.elim) (fun v hh2 H locs hq hP hS => ?_)
  obtain ⟨rfl, rfl⟩ := hq
  refine lv_icmp_eq (tgt := 13) hx hb dX0_alike_8 (by decide) (fun c8 => ?_) (fun c8 => ?_)
  · replace c8 : (A.length) = (B.length) := (nI_eq (a := (A.length)) (b := (B.length)) (by omega) (by omega)).mp c8
    refine lv_iconst (v := nI 0) hx hb dX0_alike_13 (by decide) ?_
    refine lv_istore_n (lv' := [(2, .int (nI 0)), (0, va_rf x), (1, va_rf y)]) hx hb dX0_alike_14 rfl hl (by decide) (by cases y <;> rfl) (fun ls hl => ?_)
    refine (?_ : ∀ (t : Nat) (H : Heap) (locs : List Loc) (ls : Array Slot) (jj : Nat), A.length - jj < t → lv_has ls 5 [(2, .int (nI jj)), (0, va_rf x), (1, va_rf y)] → jj ≤ A.length → (∀ q, q < jj → A[q]? = B[q]?) → qP D N0 h H → va_S (qA N0) s.heap H locs → W p l e _ s m _ below meth c H locs 0 0 _ (F0 m 15 ls [])) _ H locs ls 0 (Nat.lt_succ_self _) (lv_sub hl [0, 1, 2] rfl) (Nat.zero_le _) (fun q hq => absurd hq (Nat.not_lt_zero _)) hP hS
    clear hl hP hS
    intro t
    induction t with
    | zero => intro H locs ls jj ht; exact absurd ht (Nat.not_lt_zero _)
    | succ t ihl =>
      intro H locs ls jj ht hl hj kk hP hS
      refine lv_iload_n hx hb dX0_alike_15 rfl (lv_at hl 0 rfl) ?_
      refine q_aload_n hx hb dX0_alike_16 rfl (lv_at hl 1 rfl) ?_
      refine q_callS (rest := [.int (nI jj)]) C (c_X0_sizeOf l D cy N0 h x (nI (A.length)) hA.fiS) kX0_sizeOf g594 g227 hP hS (by first | decide | omega) hl.1 rfl (by simp [q_catrf, q_cati, q_catl, q_cata, q_catn]) (by first | decide | omega) dX0_alike_17 (fun q ce E h' H1 locs1 hE => hE.elim) (fun v hh3 H locs hq hP hS => ?_)
      obtain ⟨rfl, rfl⟩ := hq
      refine lv_icmp_ge (tgt := 79) hx hb dX0_alike_20 (by decide) (fun c20 => ?_) (fun c20 => ?_)
      · replace c20 : (A.length) ≤ jj := (nI_leI (a := (A.length)) (b := jj) (by omega) (by omega)).mp c20
        refine lv_iconst (v := nI 1) hx hb dX0_alike_79 (by decide) ?_
        exact q_zret C hP hS (Or.inr rfl) ⟨by rw [if_pos (List.ext_getElem? (fun q => if e : q < jj then kk q e else by rw [List.getElem?_eq_none (by omega), List.getElem?_eq_none (by omega)]))], rfl⟩ (by omega) dX0_alike_80
      · replace c20 : ¬ (A.length) ≤ jj := fun zq => c20 ((nI_leI (a := (A.length)) (b := jj) (by omega) (by omega)).mpr zq)
        refine q_aload_n hx hb dX0_alike_23 rfl (lv_at hl 1 rfl) ?_
        refine lv_iload_n hx hb dX0_alike_24 rfl (lv_at hl 0 rfl) ?_
        refine q_callS (rest := []) C (c_X0_branchAt l D cy N0 h x i A (nI jj) hA (by omega)) kX0_branchAt g796 g592 hP hS (by first | decide | omega) hl.1 rfl (by decide) (by first | decide | omega) dX0_alike_25 (fun q ce E h' H1 locs1 hE => hE.elim) (fun v hh4 H locs hq hP hS => ?_)
        obtain ⟨r1, rfl, rfl, hg1⟩ := hq
        rcases hg1 with ⟨j1, a1, k1, v1, x1, y1, z1, w1, e1, m1, rfl, f1⟩ | ⟨rfl, hg1⟩
        · have d1 := (List.getElem?_eq_some_iff.mp m1).1
          have u1 := (nI_eq (a := jj) (b := j1) (by omega) (by omega)).mp e1
          subst u1
          clear e1
          refine lv_astore_n (lv' := [(3, .ref a1), (2, .int (nI jj)), (0, va_rf x), (1, va_rf y)]) hx hb dX0_alike_28 rfl hl (by decide) rfl (fun ls hl => ?_)
          refine q_aload_n hx hb dX0_alike_29 rfl (lv_at hl 3 rfl) ?_
          refine lv_iload_n hx hb dX0_alike_30 rfl (lv_at hl 1 rfl) ?_
          refine q_callS (rest := []) C (c_X0_branchAt l D cy N0 h y j B (nI jj) hB (by omega)) kX0_branchAt g796 g592 hP hS (by first | decide | omega) hl.1 rfl (by decide) (by first | decide | omega) dX0_alike_31 (fun q ce E h' H1 locs1 hE => hE.elim) (fun v hh5 H locs hq hP hS => ?_)
          obtain ⟨r2, rfl, rfl, hg2⟩ := hq
          rcases hg2 with ⟨j2, a2, k2, v2, x2, y2, z2, w2, e2, m2, rfl, f2⟩ | ⟨rfl, hg2⟩
          · have d2 := (List.getElem?_eq_some_iff.mp m2).1
            have u2 := (nI_eq (a := jj) (b := j2) (by omega) (by omega)).mp e2
            subst u2
            clear e2
            refine lv_astore (lv' := [(4, .ref a2), (3, .ref a1), (2, .int (nI jj)), (0, va_rf x), (1, va_rf y)]) hx hb dX0_alike_34 hl (by decide) rfl (fun ls hl => ?_)
            refine lv_aload_n hx hb dX0_alike_36 rfl (lv_at hl 1 rfl) ?_
            refine lv_ifnull hx hb dX0_alike_37 ?_
            refine lv_aload hx hb dX0_alike_40 (lv_at hl 0 rfl) ?_
            refine lv_ifnull hx hb dX0_alike_42 ?_
            refine lv_aload_n hx hb dX0_alike_45 rfl (lv_at hl 1 rfl) ?_
            refine q_get C hP f1 rfl inX0 1 (by decide) g492 rfl dX0_alike_46 ?_
            refine lv_aload hx hb dX0_alike_49 (lv_at hl 0 rfl) ?_
            refine q_get C hP f2 rfl inX0 1 (by decide) g492 rfl dX0_alike_51 ?_
            refine W.lcmp hx hb dX0_alike_54 ?_
            refine lv_if_ne (tgt := 71) hx hb dX0_alike_55 (by decide) (fun c55 => ?_) (fun c55 => ?_)
            · replace c55 : ¬ k1.toInt = k2.toInt := fun zq => c55 ((lg_cmp_eq _ _).mpr (Int64.toInt_inj.symm.mpr zq))
              refine lv_iconst (v := nI 0) hx hb dX0_alike_71 (by decide) ?_
              exact q_zret C hP hS (Or.inl rfl) ⟨by rw [if_neg (fun e => by rw [e, m2] at m1; cases m1; first | exact c55 rfl | exact c68 rfl)], rfl⟩ (by omega) dX0_alike_72
            · replace c55 : k1.toInt = k2.toInt := Int64.toInt_inj.symm.mp ((lg_cmp_eq _ _).mp c55)
              refine lv_aload_n hx hb dX0_alike_58 rfl (lv_at hl 1 rfl) ?_
              refine q_get C hP f1 rfl inX0 2 (by decide) g494 rfl dX0_alike_59 ?_
              refine lv_aload hx hb dX0_alike_62 (lv_at hl 0 rfl) ?_
              refine q_get C hP f2 rfl inX0 2 (by decide) g494 rfl dX0_alike_64 ?_
              refine W.lcmp hx hb dX0_alike_67 ?_
              refine lv_if_eq (tgt := 73) hx hb dX0_alike_68 (by decide) (fun c68 => ?_) (fun c68 => ?_)
              · replace c68 : v1.toInt = v2.toInt := Int64.toInt_inj.symm.mp ((lg_cmp_eq _ _).mp c68)
                refine lv_iinc (v := nI (jj + 1)) (lv' := [(2, .int (nI (jj + 1))), (4, .ref a2), (3, .ref a1), (0, va_rf x), (1, va_rf y)]) hx hb dX0_alike_73 hl (k := 2) rfl (nI_1 jj) (by decide) (by cases y <;> rfl) (fun ls hl => ?_)
                refine lv_goto (tgt := 15) hx hb dX0_alike_76 (by decide) ?_
                exact ihl H locs ls (jj + 1) (by omega) (lv_sub hl [0, 3, 4] rfl) (by omega) (fun q hq => if e : q = jj then by (subst e; rw [m1, m2, Int64.toInt_inj.mp c55, Int64.toInt_inj.mp c68]) else kk q (by omega)) hP hS
              · replace c68 : ¬ v1.toInt = v2.toInt := fun zq => c68 ((lg_cmp_eq _ _).mpr (Int64.toInt_inj.symm.mpr zq))
                refine lv_iconst (v := nI 0) hx hb dX0_alike_71 (by decide) ?_
                exact q_zret C hP hS (Or.inl rfl) ⟨by rw [if_neg (fun e => by rw [e, m2] at m1; cases m1; first | exact c55 rfl | exact c68 rfl)], rfl⟩ (by omega) dX0_alike_72
          · exfalso
            rcases hg2 with hg | ⟨j2, e2, m2, u2⟩
            · exact absurd hg (nI_pos (by omega))
            · have := (nI_eq (a := jj) (b := j2) (by omega) (by omega)).mp e2
              omega
        · exfalso
          rcases hg1 with hg | ⟨j1, e1, m1, u1⟩
          · exact absurd hg (nI_pos (by omega))
          · have := (nI_eq (a := jj) (b := j1) (by omega) (by omega)).mp e1
            omega
  · replace c8 : ¬ (A.length) = (B.length) := fun zq => c8 ((nI_eq (a := (A.length)) (b := (B.length)) (by omega) (by omega)).mpr zq)
    refine lv_iconst (v := nI 0) hx hb dX0_alike_11 (by decide) ?_
    exact q_zret C hP hS (Or.inl rfl) ⟨by rw [if_neg (fun e => c8 (by rw [e]))], rfl⟩ (by omega) dX0_alike_12
