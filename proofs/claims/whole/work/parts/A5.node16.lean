theorem thS_perm {m : Int32} {d v : Nat} {L1 L2 : qKV} (p : L1.Perm L2) : thS m d L1 v = thS m d L2 v ∧ thM m d L1 v = thM m d L2 v := by
  have h : (thK m d v L1).length = (thK m d v L2).length := (List.Perm.filter _ p).length_eq
  unfold thS thM
  rw [h]
  exact ⟨rfl, rfl⟩
theorem tr_perm {m : Int32} {r : Nat} {L1 L2 : qKV} (p : L1.Perm L2) (hn : qNo L1) : trK m r L1 = trK m r L2 ∧ trM m r L1 = trM m r L2 ∧ trKb m r L1 = trKb m r L2 ∧ trNb m r L1 = trNb m r L2 := by
  cases r with
  | zero => exact ⟨qUp_uni (thO_up _) (thO_up _) (qNo_perm (thO_perm L1).symm hn) (((thO_perm L1).trans p).trans (thO_perm L2).symm), rfl, rfl, rfl⟩
  | succ r =>
    have eS : thS m (6 - r) L1 = thS m (6 - r) L2 := funext fun v => (thS_perm p).1
    have eM : thM m (6 - r) L1 = thM m (6 - r) L2 := funext fun v => (thS_perm p).2
    refine ⟨?_, ?_, ?_, ?_⟩
    · show (List.range 32).flatMap _ = (List.range 32).flatMap _
      refine congrArg (fun f => (List.range 32).flatMap f) (funext fun v => ?_)
      unfold thF
      rw [eS]
      split
      · rename_i c
        obtain ⟨q, hq, -⟩ := thS_one c
        have p2 : (thK m (6 - r) v L1).Perm [q] := by rw [← hq]; exact List.Perm.filter _ p
        rw [hq]
        exact List.perm_singleton.mp p2
      · rfl
    · show (List.range 32).flatMap _ = (List.range 32).flatMap _
      refine congrArg (fun f => (List.range 32).flatMap f) (funext fun v => ?_)
      unfold thG
      rw [eM]
    · show tqB _ 32 = tqB _ 32; rw [eS]
    · show tqB _ 32 = tqB _ 32; rw [eM]
theorem perm_tr {m : Int32} {r : Nat} {L1 L2 : qKV} (eK : trK m r L1 = trK m r L2) (eM : trM m r L1 = trM m r L2) (h : ∀ v r', r = r' + 1 → v ∈ trM m r L1 → (thK m (6 - r') v L1).Perm (thK m (6 - r') v L2)) : L1.Perm L2 := by
  refine (thT_perm (m := m) r L1).symm.trans (List.Perm.trans ?_ (thT_perm (m := m) r L2))
  cases r with
  | zero => rw [show thT m 0 L1 = trK m 0 L1 from rfl, show thT m 0 L2 = trK m 0 L2 from rfl, eK]
  | succ r =>
    rw [thT_s, thT_s, eK, ← eM]
    refine List.Perm.append_left _ (flatMap_perm (fun v hv => ?_))
    exact ((thT_perm r _).trans (h v r rfl hv)).trans (thT_perm r _).symm
theorem map_pair {A B : qKV} (h1 : A.map Prod.fst = B.map Prod.fst) (h2 : A.map Prod.snd = B.map Prod.snd) : A = B := by
  have hl : A.length = B.length := by have := congrArg List.length h1; rw [List.length_map, List.length_map] at this; exact this
  refine List.ext_getElem hl fun i ha hb => ?_
  have e1 := congrArg (fun l : List Int64 => l[i]?) h1
  have e2 := congrArg (fun l : List Int64 => l[i]?) h2
  rw [List.getElem?_map, List.getElem?_map, List.getElem?_eq_getElem ha, List.getElem?_eq_getElem hb] at e1 e2
  exact Prod.ext (Option.some.inj e1) (Option.some.inj e2)
/-- the bits tell which numbers are there -/
theorem trM_nb {m : Int32} {r : Nat} {L1 L2 : qKV} (h : nI (trNb m r L1) = nI (trNb m r L2)) : trM m r L1 = trM m r L2 := by
  cases r with
  | zero => rfl
  | succ r =>
    have e : ∀ v, v < 32 → thM m (6 - r) L1 v = thM m (6 - r) L2 v := fun v hv => tqB_inj h hv
    show (List.range 32).flatMap _ = (List.range 32).flatMap _
    rw [List.flatMap_def, List.flatMap_def, List.map_congr_left (fun v hv => ?_)]
    unfold thG
    rw [e v (List.mem_range.mp hv)]
theorem thJ_inj {cy : Nat → ClassId} {A B : List Int64} (h : thJ cy A = thJ cy B) : A = B := by
  unfold thJ at h
  simp only [Sum.inl.injEq, Prod.mk.injEq, Sum.inr.injEq, true_and] at h
  exact getD_eq h.1 (fun q _ => congrFun h.2 q)
/-- one node stands for one set of keys -/
theorem qTr.uni {cy : Nat → ClassId} {h : qH} {m : Int32} : ∀ {r a : Nat} {L1 L2 : qKV} {Im1 Im2 : Nat → Prop} {e1 e2 : Nat} {Ok1 Ok2 : Nat → Prop} {X1 X2 : Nat → Prop}, qTr cy h Im1 e1 Ok1 m r a L1 X1 → qTr cy h Im2 e2 Ok2 m r a L2 X2 → L1.Perm L2
  | r, a, L1, L2, Im1, Im2, e1, e2, Ok1, Ok2, X1, X2, t1, t2 => by
    obtain ⟨ow1, ka1, va1, na1, C1, Xs1, g1, -, k1⟩ := t1.inv
    obtain ⟨ow2, ka2, va2, na2, C2, Xs2, g2, -, k2⟩ := t2.inv
    have ea := Option.some.inj (g1.1.symm.trans g2.1)
    unfold thNo at ea
    simp only [Sum.inr.injEq, Prod.mk.injEq, List.cons.injEq, Value.int.injEq, Value.ref.injEq, true_and, and_true] at ea
    obtain ⟨-, eb, en, el, rfl, rfl, rfl⟩ := ea
    have eM := trM_nb en
    have ek := thJ_inj (Option.some.inj (g1.2.1.symm.trans g2.2.1))
    have ev := thJ_inj (Option.some.inj (g1.2.2.1.symm.trans g2.2.2.1))
    have eC := Option.some.inj (g1.2.2.2.1.symm.trans g2.2.2.2.1)
    unfold thA at eC
    simp only [Sum.inl.injEq, Prod.mk.injEq, Sum.inr.injEq, true_and] at eC
    refine perm_tr (map_pair ek ev) eM (fun v r' er hv => ?_)
    obtain ⟨j, hj⟩ := List.mem_iff_getElem?.mp hv
    obtain ⟨r1, er1, s1⟩ := k1 j v hj
    obtain ⟨r2, er2, s2⟩ := k2 j v (by rw [← eM]; exact hj)
    subst er
    cases er1
    cases er2
    have ec : C1 j = C2 j := Option.some.inj (congrFun eC.2 j)
    rw [ec] at s1
    exact s1.uni s2
  termination_by r _ _ _ _ _ _ _ _ _ _ _ _ _ => r
  decreasing_by omega
theorem dX3_alike_0 : decode cX3_alike 0 = .ok (.aload_n 0, 1) := by decide +kernel
theorem dX3_alike_1 : decode cX3_alike 1 = .ok (.aload_n 1, 1) := by decide +kernel
theorem dX3_alike_2 : decode cX3_alike 2 = .ok (.if_acmp .ne 5, 3) := by decide +kernel
theorem dX3_alike_5 : decode cX3_alike 5 = .ok (.iconst 1, 1) := by decide +kernel
theorem dX3_alike_6 : decode cX3_alike 6 = .ok (.ireturn, 1) := by decide +kernel
theorem dX3_alike_7 : decode cX3_alike 7 = .ok (.aload_n 0, 1) := by decide +kernel
theorem dX3_alike_8 : decode cX3_alike 8 = .ok (.ifnull 68, 3) := by decide +kernel
theorem dX3_alike_11 : decode cX3_alike 11 = .ok (.aload_n 1, 1) := by decide +kernel
theorem dX3_alike_12 : decode cX3_alike 12 = .ok (.ifnull 64, 3) := by decide +kernel
theorem dX3_alike_15 : decode cX3_alike 15 = .ok (.aload_n 0, 1) := by decide +kernel
theorem dX3_alike_16 : decode cX3_alike 16 = .ok (.getfield 32, 3) := by decide +kernel
theorem dX3_alike_19 : decode cX3_alike 19 = .ok (.aload_n 1, 1) := by decide +kernel
theorem dX3_alike_20 : decode cX3_alike 20 = .ok (.getfield 32, 3) := by decide +kernel
theorem dX3_alike_23 : decode cX3_alike 23 = .ok (.if_icmp .ne 53, 3) := by decide +kernel
theorem dX3_alike_26 : decode cX3_alike 26 = .ok (.aload_n 0, 1) := by decide +kernel
theorem dX3_alike_27 : decode cX3_alike 27 = .ok (.getfield 55, 3) := by decide +kernel
theorem dX3_alike_30 : decode cX3_alike 30 = .ok (.aload_n 1, 1) := by decide +kernel
theorem dX3_alike_31 : decode cX3_alike 31 = .ok (.getfield 55, 3) := by decide +kernel
theorem dX3_alike_34 : decode cX3_alike 34 = .ok (.if_icmp .ne 42, 3) := by decide +kernel
theorem dX3_alike_37 : decode cX3_alike 37 = .ok (.aload_n 0, 1) := by decide +kernel
theorem dX3_alike_38 : decode cX3_alike 38 = .ok (.getfield 45, 3) := by decide +kernel
theorem dX3_alike_41 : decode cX3_alike 41 = .ok (.aload_n 1, 1) := by decide +kernel
theorem dX3_alike_42 : decode cX3_alike 42 = .ok (.getfield 45, 3) := by decide +kernel
theorem dX3_alike_45 : decode cX3_alike 45 = .ok (.if_icmp .ne 31, 3) := by decide +kernel
theorem dX3_alike_48 : decode cX3_alike 48 = .ok (.aload_n 0, 1) := by decide +kernel
theorem dX3_alike_49 : decode cX3_alike 49 = .ok (.getfield 15, 3) := by decide +kernel
theorem dX3_alike_52 : decode cX3_alike 52 = .ok (.aload_n 1, 1) := by decide +kernel
theorem dX3_alike_53 : decode cX3_alike 53 = .ok (.getfield 15, 3) := by decide +kernel
theorem dX3_alike_56 : decode cX3_alike 56 = .ok (.invokestatic 157, 3) := by decide +kernel
theorem dX3_alike_59 : decode cX3_alike 59 = .ok (.ifCond .eq 17, 3) := by decide +kernel
theorem dX3_alike_62 : decode cX3_alike 62 = .ok (.aload_n 0, 1) := by decide +kernel
theorem dX3_alike_63 : decode cX3_alike 63 = .ok (.getfield 18, 3) := by decide +kernel
theorem dX3_alike_66 : decode cX3_alike 66 = .ok (.aload_n 1, 1) := by decide +kernel
theorem dX3_alike_67 : decode cX3_alike 67 = .ok (.getfield 18, 3) := by decide +kernel
theorem dX3_alike_70 : decode cX3_alike 70 = .ok (.invokestatic 157, 3) := by decide +kernel
theorem dX3_alike_73 : decode cX3_alike 73 = .ok (.ifCond .ne 5, 3) := by decide +kernel
theorem dX3_alike_76 : decode cX3_alike 76 = .ok (.iconst 0, 1) := by decide +kernel
theorem dX3_alike_77 : decode cX3_alike 77 = .ok (.ireturn, 1) := by decide +kernel
theorem dX3_alike_78 : decode cX3_alike 78 = .ok (.iconst 0, 1) := by decide +kernel
theorem dX3_alike_79 : decode cX3_alike 79 = .ok (.istore_n 2, 1) := by decide +kernel
theorem dX3_alike_80 : decode cX3_alike 80 = .ok (.iload_n 2, 1) := by decide +kernel
theorem dX3_alike_81 : decode cX3_alike 81 = .ok (.aload_n 0, 1) := by decide +kernel
theorem dX3_alike_82 : decode cX3_alike 82 = .ok (.getfield 28, 3) := by decide +kernel
theorem dX3_alike_85 : decode cX3_alike 85 = .ok (.arraylength, 1) := by decide +kernel
theorem dX3_alike_86 : decode cX3_alike 86 = .ok (.if_icmp .ge 38, 3) := by decide +kernel
theorem dX3_alike_89 : decode cX3_alike 89 = .ok (.iload_n 2, 1) := by decide +kernel
theorem dX3_alike_90 : decode cX3_alike 90 = .ok (.aload_n 1, 1) := by decide +kernel
theorem dX3_alike_91 : decode cX3_alike 91 = .ok (.getfield 28, 3) := by decide +kernel
theorem dX3_alike_94 : decode cX3_alike 94 = .ok (.arraylength, 1) := by decide +kernel
theorem dX3_alike_95 : decode cX3_alike 95 = .ok (.if_icmp .ge 29, 3) := by decide +kernel
theorem dX3_alike_98 : decode cX3_alike 98 = .ok (.aload_n 0, 1) := by decide +kernel
theorem dX3_alike_99 : decode cX3_alike 99 = .ok (.getfield 28, 3) := by decide +kernel
theorem dX3_alike_102 : decode cX3_alike 102 = .ok (.iload_n 2, 1) := by decide +kernel
theorem dX3_alike_103 : decode cX3_alike 103 = .ok (.aaload, 1) := by decide +kernel
theorem dX3_alike_104 : decode cX3_alike 104 = .ok (.aload_n 1, 1) := by decide +kernel
theorem dX3_alike_105 : decode cX3_alike 105 = .ok (.getfield 28, 3) := by decide +kernel
theorem dX3_alike_108 : decode cX3_alike 108 = .ok (.iload_n 2, 1) := by decide +kernel
theorem dX3_alike_109 : decode cX3_alike 109 = .ok (.aaload, 1) := by decide +kernel
theorem dX3_alike_110 : decode cX3_alike 110 = .ok (.invokestatic 161, 3) := by decide +kernel
theorem dX3_alike_113 : decode cX3_alike 113 = .ok (.ifCond .ne 5, 3) := by decide +kernel
theorem dX3_alike_116 : decode cX3_alike 116 = .ok (.iconst 0, 1) := by decide +kernel
theorem dX3_alike_117 : decode cX3_alike 117 = .ok (.ireturn, 1) := by decide +kernel
theorem dX3_alike_118 : decode cX3_alike 118 = .ok (.iinc 2 1, 3) := by decide +kernel
theorem dX3_alike_121 : decode cX3_alike 121 = .ok (.goto (-41), 3) := by decide +kernel
theorem dX3_alike_124 : decode cX3_alike 124 = .ok (.iconst 1, 1) := by decide +kernel
theorem dX3_alike_125 : decode cX3_alike 125 = .ok (.ireturn, 1) := by decide +kernel
set_option maxRecDepth 100000 in
set_option maxHeartbeats 4000000 in
theorem c_X3_alike (l : Launch) (D : va_G) (cy : Nat → ClassId) (N0 : Nat) (Im : Nat → Prop) (e9 : Nat) (Ok : Nat → Prop) (m9 : Int32) (s : Nat) : ∀ (h : qH) (r a b : Nat) (L1 L2 : qKV) (X1 X2 : Nat → Prop) (hT1 : qTr cy h Im e9 Ok m9 r a L1 X1) (hT2 : qTr cy h Im e9 Ok m9 r b L2 X2) (hr : r ≤ 7) (hL1 : L1.length < 1000000) (hL2 : L2.length < 1000000) (hno1 : qNo L1) (hs : r < s), qC l D cy N0 yX3_alike cX3_alike 3 (some .boolean) (2 + r) (40 + 40 * r) 0 0 [.ref a, .ref b] h (fun v h' => h = h' ∧ ((v = some (.int (nI 1)) ∧ L1.Perm L2) ∨ (v = some (.int (nI 0)) ∧ ¬ L1.Perm L2))) (fun E h' => False) := by
  induction s with
  | zero => intro h r a b L1 L2 X1 X2 hT1 hT2 hr hL1 hL2 hno1 hs; exact absurd hs (Nat.not_lt_zero _)
  | succ s ih =>
    intro h r a b L1 L2 X1 X2 hT1 hT2 hr hL1 hL2 hno1 hs
    refine q_ofW (by decide) (by exact Nat.le_of_ble_eq_true rfl) ?_
    intro p e s m below meth c ls C hP hl
    have hx := C.1
    have hb := C.2.1
    have hS : va_S (qA N0) s.heap s.heap [] := va_S.rf
    have hl : lv_has ls 3 [(0, .ref a), (1, .ref b)] := hl
    obtain ⟨ow1, ka1, va1, na1, C1, Xs1, hn1, hx1, hk1⟩ := hT1.inv
    have f1 := hn1.1
    have fk1 := hn1.2.1
    have fv1 := hn1.2.2.1
    have fn1 := hn1.2.2.2.1
    unfold thNo at f1
    unfold thJ at fk1 fv1
    unfold thA at fn1
    rw [List.length_map] at fk1 fv1
    obtain ⟨ow2, ka2, va2, na2, C2, Xs2, hn2, hx2, hk2⟩ := hT2.inv
    have f2 := hn2.1
    have fk2 := hn2.2.1
    have fv2 := hn2.2.2.1
    have fn2 := hn2.2.2.2.1
    unfold thNo at f2
    unfold thJ at fk2 fv2
    unfold thA at fn2
    rw [List.length_map] at fk2 fv2
    have hml1 := trM_len (m := m9) (r := r) (L := L1)
    have hkl1 := trK_len (m := m9) (r := r) (L := L1)
    have hml2 := trM_len (m := m9) (r := r) (L := L2)
    have hkl2 := trK_len (m := m9) (r := r) (L := L2)
    refine lv_aload_n hx hb dX3_alike_0 rfl (lv_at hl 0 rfl) ?_
    refine lv_aload_n hx hb dX3_alike_1 rfl (lv_at hl 1 rfl) ?_
    refine lv_acmp_ne (rx := some a) (ry := some b) (tgt := 7) hx hb dX3_alike_2 (by decide) (fun c2 => ?_) (fun c2 => ?_)
    · refine lv_aload_n hx hb dX3_alike_7 rfl (lv_at hl 0 rfl) ?_
      refine lv_ifnull hx hb dX3_alike_8 ?_
      refine lv_aload_n hx hb dX3_alike_11 rfl (lv_at hl 1 rfl) ?_
      refine lv_ifnull hx hb dX3_alike_12 ?_
      refine lv_aload_n hx hb dX3_alike_15 rfl (lv_at hl 0 rfl) ?_
      refine q_get C hP f1 rfl inX3 4 (by decide) g365 rfl dX3_alike_16 ?_
      refine lv_aload_n hx hb dX3_alike_19 rfl (lv_at hl 1 rfl) ?_
      refine q_get C hP f2 rfl inX3 4 (by decide) g365 rfl dX3_alike_20 ?_
      refine lv_icmp_ne (tgt := 76) hx hb dX3_alike_23 (by decide) (fun c23 => ?_) (fun c23 => ?_)
      · replace c23 : ¬ (L1.length) = (L2.length) := fun zq => c23 ((nI_eq (a := L1.length) (b := L2.length) (by omega) (by omega)).mpr zq)
        refine lv_iconst (v := nI 0) hx hb dX3_alike_76 (by decide) ?_
        exact q_zret C hP hS (Or.inl rfl) ⟨rfl, Or.inr ⟨rfl, fun z => c23 z.length_eq⟩⟩ (by omega) dX3_alike_77
      · replace c23 : (L1.length) = (L2.length) := (nI_eq (a := L1.length) (b := L2.length) (by omega) (by omega)).mp c23
        refine lv_aload_n hx hb dX3_alike_26 rfl (lv_at hl 0 rfl) ?_
        refine q_get C hP f1 rfl inX3 2 (by decide) g363 rfl dX3_alike_27 ?_
        refine lv_aload_n hx hb dX3_alike_30 rfl (lv_at hl 1 rfl) ?_
        refine q_get C hP f2 rfl inX3 2 (by decide) g363 rfl dX3_alike_31 ?_
        refine lv_icmp_ne (tgt := 76) hx hb dX3_alike_34 (by decide) (fun c34 => ?_) (fun c34 => ?_)
        · refine lv_iconst (v := nI 0) hx hb dX3_alike_76 (by decide) ?_
          exact q_zret C hP hS (Or.inl rfl) ⟨rfl, Or.inr ⟨rfl, fun z => c34 (by rw [(tr_perm (m := m9) (r := r) z hno1).2.2.1])⟩⟩ (by omega) dX3_alike_77
        · refine lv_aload_n hx hb dX3_alike_37 rfl (lv_at hl 0 rfl) ?_
          refine q_get C hP f1 rfl inX3 3 (by decide) g364 rfl dX3_alike_38 ?_
          refine lv_aload_n hx hb dX3_alike_41 rfl (lv_at hl 1 rfl) ?_
          refine q_get C hP f2 rfl inX3 3 (by decide) g364 rfl dX3_alike_42 ?_
          refine lv_icmp_ne (tgt := 76) hx hb dX3_alike_45 (by decide) (fun c45 => ?_) (fun c45 => ?_)
          · refine lv_iconst (v := nI 0) hx hb dX3_alike_76 (by decide) ?_
            exact q_zret C hP hS (Or.inl rfl) ⟨rfl, Or.inr ⟨rfl, fun z => c45 (by rw [(tr_perm (m := m9) (r := r) z hno1).2.2.2])⟩⟩ (by omega) dX3_alike_77
          · refine lv_aload_n hx hb dX3_alike_48 rfl (lv_at hl 0 rfl) ?_
            refine q_get C hP f1 rfl inX3 5 (by decide) g366 rfl dX3_alike_49 ?_
            refine lv_aload_n hx hb dX3_alike_52 rfl (lv_at hl 1 rfl) ?_
            refine q_get C hP f2 rfl inX3 5 (by decide) g366 rfl dX3_alike_53 ?_
            refine q_callS (rest := []) C (c_X3_alikeRows l D cy N0 h ka1 ka2 (List.map Prod.fst (trK m9 r L1)) (List.map Prod.fst (trK m9 r L2)) hn1.2.1 hn2.2.1 (by rw [List.length_map]; omega) (by rw [List.length_map]; omega)) kX3_alikeRows g910 g911 hP hS (by first | decide | omega) hl.1 rfl (by decide) (by first | decide | omega) dX3_alike_56 (fun q ce E h' H1 locs1 hE => hE.elim) (fun v hh1 H locs hq hP hS => ?_)
            obtain ⟨rfl, hq⟩ := hq
            rcases hq with ⟨rfl, erk⟩ | ⟨rfl, erk⟩
            · refine lv_if_eq (tgt := 76) hx hb dX3_alike_59 (by decide) (fun c59 => ?_) (fun c59 => ?_)
              · replace c59 : 1 = 0 := (nI_eq (a := 1) (b := 0) (by omega) (by omega)).mp c59
                exfalso; omega
              · replace c59 : ¬ 1 = 0 := fun zq => c59 ((nI_eq (a := 1) (b := 0) (by omega) (by omega)).mpr zq)
                refine lv_aload_n hx hb dX3_alike_62 rfl (lv_at hl 0 rfl) ?_
                refine q_get C hP f1 rfl inX3 6 (by decide) g367 rfl dX3_alike_63 ?_
                refine lv_aload_n hx hb dX3_alike_66 rfl (lv_at hl 1 rfl) ?_
                refine q_get C hP f2 rfl inX3 6 (by decide) g367 rfl dX3_alike_67 ?_
                refine q_callS (rest := []) C (c_X3_alikeRows l D cy N0 h va1 va2 (List.map Prod.snd (trK m9 r L1)) (List.map Prod.snd (trK m9 r L2)) hn1.2.2.1 hn2.2.2.1 (by rw [List.length_map]; omega) (by rw [List.length_map]; omega)) kX3_alikeRows g910 g911 hP hS (by first | decide | omega) hl.1 rfl (by decide) (by first | decide | omega) dX3_alike_70 (fun q ce E h' H1 locs1 hE => hE.elim) (fun v hh2 H locs hq hP hS => ?_)
                obtain ⟨rfl, hq⟩ := hq
                rcases hq with ⟨rfl, erv⟩ | ⟨rfl, erv⟩
                · refine lv_if_ne (tgt := 78) hx hb dX3_alike_73 (by decide) (fun c73 => ?_) (fun c73 => ?_)
                  · replace c73 : ¬ 1 = 0 := fun zq => c73 ((nI_eq (a := 1) (b := 0) (by omega) (by omega)).mpr zq)
                    refine lv_iconst (v := nI 0) hx hb dX3_alike_78 (by decide) ?_
                    refine lv_istore_n (lv' := [(2, .int (nI 0)), (0, .ref a), (1, .ref b)]) hx hb dX3_alike_79 rfl hl (by decide) rfl (fun ls hl => ?_)
                    have eK := map_pair erk erv
                    have eM := trM_nb (show nI (trNb m9 r L1) = nI (trNb m9 r L2) from c45)
                    have eMl : (trM m9 r L1).length = (trM m9 r L2).length := by rw [eM]
                    refine (?_ : ∀ (t : Nat) (H : Heap) (locs : List Loc) (ls : Array Slot) (j : Nat), (trM m9 r L1).length - j < t → lv_has ls 3 [(2, .int (nI j)), (0, .ref a), (1, .ref b)] → j ≤ (trM m9 r L1).length → (∀ q v r', q < j → (trM m9 r L1)[q]? = some v → r = r' + 1 → (thK m9 (6 - r') v L1).Perm (thK m9 (6 - r') v L2)) → qP D N0 h H → va_S (qA N0) s.heap H locs → W p l e _ s m _ below meth c H locs 0 0 _ (F0 m 80 ls [])) _ _ _ ls 0 (Nat.lt_succ_self _) (lv_sub hl [0, 1, 2] rfl) (Nat.zero_le _) (fun q v r9 hq => absurd hq (Nat.not_lt_zero _)) hP hS
                    clear hl hP hS
                    intro t
                    induction t with
                    | zero => intro H locs ls j ht; exact absurd ht (Nat.not_lt_zero _)
                    | succ t ihl =>
                      intro H locs ls j ht hl hj kk hP hS
                      refine lv_iload_n hx hb dX3_alike_80 rfl (lv_at hl 0 rfl) ?_
                      refine lv_aload_n hx hb dX3_alike_81 rfl (lv_at hl 1 rfl) ?_
                      refine q_get C hP f1 rfl inX3 7 (by decide) g369 rfl dX3_alike_82 ?_
                      refine q_alen C hP fn1 rfl dX3_alike_85 ?_
                      refine lv_icmp_ge (tgt := 124) hx hb dX3_alike_86 (by decide) (fun c86 => ?_) (fun c86 => ?_)
                      · replace c86 : ((trM m9 r L1).length) ≤ j := (nI_leI (a := (trM m9 r L1).length) (b := j) (by omega) (by omega)).mp c86
                        refine lv_iconst (v := nI 1) hx hb dX3_alike_124 (by decide) ?_
                        exact q_zret C hP hS (Or.inr rfl) ⟨rfl, Or.inl ⟨rfl, perm_tr eK eM (fun v r9 er hv => by obtain ⟨q, hq⟩ := List.mem_iff_getElem?.mp hv; exact kk q v r9 (by have := (List.getElem?_eq_some_iff.mp hq).1; omega) hq er)⟩⟩ (by omega) dX3_alike_125
                      · replace c86 : ¬ ((trM m9 r L1).length) ≤ j := fun zq => c86 ((nI_leI (a := (trM m9 r L1).length) (b := j) (by omega) (by omega)).mpr zq)
                        refine lv_iload_n hx hb dX3_alike_89 rfl (lv_at hl 0 rfl) ?_
                        refine lv_aload_n hx hb dX3_alike_90 rfl (lv_at hl 2 rfl) ?_
                        refine q_get C hP f2 rfl inX3 7 (by decide) g369 rfl dX3_alike_91 ?_
                        refine q_alen C hP fn2 rfl dX3_alike_94 ?_
                        refine lv_icmp_ge (tgt := 124) hx hb dX3_alike_95 (by decide) (fun c95 => ?_) (fun c95 => ?_)
                        · replace c95 : ((trM m9 r L2).length) ≤ j := (nI_leI (a := (trM m9 r L2).length) (b := j) (by omega) (by omega)).mp c95
                          exfalso; omega
                        · replace c95 : ¬ ((trM m9 r L2).length) ≤ j := fun zq => c95 ((nI_leI (a := (trM m9 r L2).length) (b := j) (by omega) (by omega)).mpr zq)
                          refine lv_aload_n hx hb dX3_alike_98 rfl (lv_at hl 1 rfl) ?_
                          refine q_get C hP f1 rfl inX3 7 (by decide) g369 rfl dX3_alike_99 ?_
                          refine lv_iload_n hx hb dX3_alike_102 rfl (lv_at hl 0 rfl) ?_
                          refine q_aaldR C hP fn1 rfl (by omega) (by omega) rfl dX3_alike_103 ?_
                          refine lv_aload_n hx hb dX3_alike_104 rfl (lv_at hl 2 rfl) ?_
                          refine q_get C hP f2 rfl inX3 7 (by decide) g369 rfl dX3_alike_105 ?_
                          refine lv_iload_n hx hb dX3_alike_108 rfl (lv_at hl 0 rfl) ?_
                          refine q_aaldR C hP fn2 rfl (by omega) (by omega) rfl dX3_alike_109 ?_
                          have hjl : j < (trM m9 r L1).length := by omega
                          obtain ⟨v9, hv9⟩ : ∃ v, (trM m9 r L1)[j]? = some v := ⟨_, List.getElem?_eq_getElem hjl⟩
                          obtain ⟨r9, er9, t9⟩ := hk1 j v9 hv9
                          obtain ⟨r8, er8, t8⟩ := hk2 j v9 (by rw [← eM]; exact hv9)
                          have er7 : r8 = r9 := by omega
                          subst er7
                          refine q_callS (rest := []) C (ih h r8 (C1 j) (C2 j) (thK m9 (6 - r8) v9 L1) (thK m9 (6 - r8) v9 L2) (Xs1 j) (Xs2 j) t9 t8 (by omega) (Nat.lt_of_le_of_lt thK_len hL1) (Nat.lt_of_le_of_lt thK_len hL2) (qNo_k hno1) (by omega)) kX3_alike g913 g908 hP hS (by first | decide | omega) hl.1 rfl (by decide) (by first | decide | omega) dX3_alike_110 (fun q ce E h' H1 locs1 hE => hE.elim) (fun v hh3 H locs hq hP hS => ?_)
                          obtain ⟨rfl, hq⟩ := hq
                          rcases hq with ⟨rfl, pm9⟩ | ⟨rfl, pm9⟩
                          · refine lv_if_ne (tgt := 118) hx hb dX3_alike_113 (by decide) (fun c113 => ?_) (fun c113 => ?_)
                            · replace c113 : ¬ 1 = 0 := fun zq => c113 ((nI_eq (a := 1) (b := 0) (by omega) (by omega)).mpr zq)
                              refine lv_iinc (v := nI (j + 1)) (lv' := [(2, .int (nI (j + 1))), (0, .ref a), (1, .ref b)]) hx hb dX3_alike_118 hl (k := 0) rfl (nI_1 j) (by decide) rfl (fun ls hl => ?_)
                              refine lv_goto (tgt := 80) hx hb dX3_alike_121 (by decide) ?_
                              exact ihl H locs ls (j + 1) (by omega) (lv_sub hl [0, 1, 2] rfl) (by omega) (fun q v r7 hq hv er => if e : q = j then by (subst e; rw [hv9] at hv; cases hv; rw [show r7 = r8 by omega]; exact pm9) else kk q v r7 (by omega) hv er) hP hS
                            · replace c113 : 1 = 0 := (nI_eq (a := 1) (b := 0) (by omega) (by omega)).mp c113
                              exfalso; omega
                          · refine lv_if_ne (tgt := 118) hx hb dX3_alike_113 (by decide) (fun c113 => ?_) (fun c113 => ?_)
                            · replace c113 : ¬ 0 = 0 := fun zq => c113 ((nI_eq (a := 0) (b := 0) (by omega) (by omega)).mpr zq)
                              exfalso; omega
                            · replace c113 : 0 = 0 := (nI_eq (a := 0) (b := 0) (by omega) (by omega)).mp c113
                              refine lv_iconst (v := nI 0) hx hb dX3_alike_116 (by decide) ?_
                              exact q_zret C hP hS (Or.inl rfl) ⟨rfl, Or.inr ⟨rfl, fun z => pm9 (List.Perm.filter _ z)⟩⟩ (by omega) dX3_alike_117
                  · replace c73 : 1 = 0 := (nI_eq (a := 1) (b := 0) (by omega) (by omega)).mp c73
                    exfalso; omega
                · refine lv_if_ne (tgt := 78) hx hb dX3_alike_73 (by decide) (fun c73 => ?_) (fun c73 => ?_)
                  · replace c73 : ¬ 0 = 0 := fun zq => c73 ((nI_eq (a := 0) (b := 0) (by omega) (by omega)).mpr zq)
                    exfalso; omega
                  · replace c73 : 0 = 0 := (nI_eq (a := 0) (b := 0) (by omega) (by omega)).mp c73
                    refine lv_iconst (v := nI 0) hx hb dX3_alike_76 (by decide) ?_
                    exact q_zret C hP hS (Or.inl rfl) ⟨rfl, Or.inr ⟨rfl, fun z => erv (by rw [(tr_perm (m := m9) (r := r) z hno1).1])⟩⟩ (by omega) dX3_alike_77
            · refine lv_if_eq (tgt := 76) hx hb dX3_alike_59 (by decide) (fun c59 => ?_) (fun c59 => ?_)
              · replace c59 : 0 = 0 := (nI_eq (a := 0) (b := 0) (by omega) (by omega)).mp c59
                refine lv_iconst (v := nI 0) hx hb dX3_alike_76 (by decide) ?_
                exact q_zret C hP hS (Or.inl rfl) ⟨rfl, Or.inr ⟨rfl, fun z => erk (by rw [(tr_perm (m := m9) (r := r) z hno1).1])⟩⟩ (by omega) dX3_alike_77
              · replace c59 : ¬ 0 = 0 := fun zq => c59 ((nI_eq (a := 0) (b := 0) (by omega) (by omega)).mpr zq)
                exfalso; omega
    · refine lv_iconst (v := nI 1) hx hb dX3_alike_5 (by decide) ?_
      exact q_zret C hP hS (Or.inr rfl) ⟨rfl, Or.inl ⟨rfl, by (have e2 : a = b := by (injection c2)); subst e2; exact hT1.uni hT2⟩⟩ (by omega) dX3_alike_6
