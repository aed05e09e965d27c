theorem dX8_taken_0 : decode cX8_taken 0 = .ok (.iload_n 1, 1) := by decide +kernel
theorem dX8_taken_1 : decode cX8_taken 1 = .ok (.ifCond .eq 7, 3) := by decide +kernel
theorem dX8_taken_4 : decode cX8_taken 4 = .ok (.iload_n 2, 1) := by decide +kernel
theorem dX8_taken_5 : decode cX8_taken 5 = .ok (.ifCond .ne 5, 3) := by decide +kernel
theorem dX8_taken_8 : decode cX8_taken 8 = .ok (.iconst 0, 1) := by decide +kernel
theorem dX8_taken_9 : decode cX8_taken 9 = .ok (.ireturn, 1) := by decide +kernel
theorem dX8_taken_10 : decode cX8_taken 10 = .ok (.aload_n 0, 1) := by decide +kernel
theorem dX8_taken_11 : decode cX8_taken 11 = .ok (.aload_n 0, 1) := by decide +kernel
theorem dX8_taken_12 : decode cX8_taken 12 = .ok (.getfield 32, 3) := by decide +kernel
theorem dX8_taken_15 : decode cX8_taken 15 = .ok (.iload_n 1, 1) := by decide +kernel
theorem dX8_taken_16 : decode cX8_taken 16 = .ok (.laload, 1) := by decide +kernel
theorem dX8_taken_17 : decode cX8_taken 17 = .ok (.iload_n 2, 1) := by decide +kernel
theorem dX8_taken_18 : decode cX8_taken 18 = .ok (.iconst 1, 1) := by decide +kernel
theorem dX8_taken_19 : decode cX8_taken 19 = .ok (.if_icmp .ne 11, 3) := by decide +kernel
theorem dX8_taken_22 : decode cX8_taken 22 = .ok (.aload_n 0, 1) := by decide +kernel
theorem dX8_taken_23 : decode cX8_taken 23 = .ok (.iconst 0, 1) := by decide +kernel
theorem dX8_taken_24 : decode cX8_taken 24 = .ok (.invokevirtual 139, 3) := by decide +kernel
theorem dX8_taken_27 : decode cX8_taken 27 = .ok (.goto 19, 3) := by decide +kernel
theorem dX8_taken_30 : decode cX8_taken 30 = .ok (.aload_n 0, 1) := by decide +kernel
theorem dX8_taken_31 : decode cX8_taken 31 = .ok (.iconst 5, 1) := by decide +kernel
theorem dX8_taken_32 : decode cX8_taken 32 = .ok (.aload_n 0, 1) := by decide +kernel
theorem dX8_taken_33 : decode cX8_taken 33 = .ok (.getfield 36, 3) := by decide +kernel
theorem dX8_taken_36 : decode cX8_taken 36 = .ok (.iload_n 1, 1) := by decide +kernel
theorem dX8_taken_37 : decode cX8_taken 37 = .ok (.iaload, 1) := by decide +kernel
theorem dX8_taken_38 : decode cX8_taken 38 = .ok (.iload_n 2, 1) := by decide +kernel
theorem dX8_taken_39 : decode cX8_taken 39 = .ok (.iconst 1, 1) := by decide +kernel
theorem dX8_taken_40 : decode cX8_taken 40 = .ok (.isub, 1) := by decide +kernel
theorem dX8_taken_41 : decode cX8_taken 41 = .ok (.lconst 0, 1) := by decide +kernel
theorem dX8_taken_42 : decode cX8_taken 42 = .ok (.lconst 0, 1) := by decide +kernel
theorem dX8_taken_43 : decode cX8_taken 43 = .ok (.invokevirtual 188, 3) := by decide +kernel
theorem dX8_taken_46 : decode cX8_taken 46 = .ok (.invokevirtual 143, 3) := by decide +kernel
theorem dX8_taken_49 : decode cX8_taken 49 = .ok (.ireturn, 1) := by decide +kernel
set_option maxRecDepth 100000 in
set_option maxHeartbeats 4000000 in
theorem w_taken (l : Launch) (D : va_G) (cy : Nat → ClassId) (N0 : Nat) (h : qH) (y : Nat) (A : Nat → Prop) (o : qYf) (a : qWd) (k : qKd) (pp qq : Nat) (hW : qSy cy h y A o a k) (nA : ¬ A y) (hL : a.2.1 ≤ 50000 ∧ k.2.1 ≤ 50000) (hp : pp < a.1 ∧ pp < 1000000) (hq9 : qq < 2147483648) : qC l D cy N0 yX8_taken cX8_taken 3 (some .int) 3 100 (if pp = 0 ∨ qq = 0 then 0 else qGc a k) (if pp = 0 ∨ qq = 0 then 0 else qGs a k) [.ref y, .int (nI pp), .int (nI qq)] h (fun v h' => v = some (.int (nI (xTak a k pp qq).1)) ∧ ∃ A', qSy cy h' y A' o (xTak a k pp qq).2.1 (xTak a k pp qq).2.2 ∧ qFy h h' y A A' ∧ ¬ A' y) (fun E h' => False) := by
  refine q_ofW (by decide) (by exact Nat.le_of_ble_eq_true rfl) ?_
  intro p e s m below meth c ls C hP hl
  have hx := C.1
  have hb := C.2.1
  have hS9 : va_S (qA N0) s.heap s.heap [] := va_S.rf
  have hl : lv_has ls 3 [(0, .ref y), (1, .int (nI pp)), (2, .int (nI qq))] := hl
  have hle : qle h h := qle_rf
  have hS := hW
  obtain ⟨fi1, re1, rc1, rs1, so1, ot1, cn1, la1, F1, Rt1, Rc1, Rs1, So1, Ot1, Cn1, La1, hY1, ⟨s0_1, s1_1, s2_1, s3_1, s4_1, s5_1, s6_1, s7_1⟩, hg1_, hk1_, hz1_, hd1_, he1_, hA1_, hb1_⟩ := id hS
  unfold qYo at hY1
  have hLk := hL.2
  have eg1 : qGk1 k = (if k.1 = k.2.1 then 6 else 0) := rfl
  have eg2 : qGk2 k = (if k.1 = k.2.1 then 12 * k.2.1 else 0) := rfl
  refine lv_iload_n hx hb dX8_taken_0 rfl (lv_at hl 1 rfl) ?_
  refine lv_if_eq (tgt := 8) hx hb dX8_taken_1 (by decide) (fun c1 => ?_) (fun c1 => ?_)
  · replace c1 : pp = 0 := (nI_eq (a := pp) (b := 0) (by omega) (by omega)).mp c1
    refine lv_iconst (v := nI 0) hx hb dX8_taken_8 (by decide) ?_
    have ex : xTak a k pp qq = (0, a, k) := by unfold xTak; rw [if_pos (by omega)]
    exact q_iret C hP hS9 ⟨by rw [ex], A, by rw [ex]; exact hS, qFy.rf, nA⟩ (by first | omega | (unfold qGc qGs; omega)) dX8_taken_9
  · replace c1 : ¬ pp = 0 := fun zq => c1 ((nI_eq (a := pp) (b := 0) (by omega) (by omega)).mpr zq)
    refine lv_iload_n hx hb dX8_taken_4 rfl (lv_at hl 2 rfl) ?_
    refine lv_if_ne (tgt := 10) hx hb dX8_taken_5 (by decide) (fun c5 => ?_) (fun c5 => ?_)
    · replace c5 : ¬ qq = 0 := fun zq => c5 ((nI_eq (a := qq) (b := 0) (by omega) (by omega)).mpr zq)
      have hn : ¬ (pp = 0 ∨ qq = 0) := fun z => z.elim c1 c5
      have eg : (if pp = 0 ∨ qq = 0 then 0 else qGc a k) = (if k.1 = k.2.1 then 6 else 0) + (if a.1 = a.2.1 then 2 else 0) ∧ (if pp = 0 ∨ qq = 0 then 0 else qGs a k) = (if k.1 = k.2.1 then 12 * k.2.1 else 0) + (if a.1 = a.2.1 then 4 * a.2.1 else 0) := ⟨if_neg hn, if_neg hn⟩
      obtain ⟨eg3, eg4⟩ := eg
      refine lv_aload_n hx hb dX8_taken_10 rfl (lv_at hl 0 rfl) ?_
      refine lv_aload_n hx hb dX8_taken_11 rfl (lv_at hl 0 rfl) ?_
      refine q_get C hP hY1 rfl inX8 11 (by decide) g1178 rfl dX8_taken_12 ?_
      refine lv_iload_n hx hb dX8_taken_15 rfl (lv_at hl 1 rfl) ?_
      refine q_laldN C hP s0_1 (by omega) (by omega) dX8_taken_16 ?_
      rw [(hg1_ pp (by omega)).1]
      refine lv_iload_n hx hb dX8_taken_17 rfl (lv_at hl 2 rfl) ?_
      refine lv_iconst (v := nI 1) hx hb dX8_taken_18 (by decide) ?_
      refine lv_icmp_ne (tgt := 30) hx hb dX8_taken_19 (by decide) (fun c19 => ?_) (fun c19 => ?_)
      · replace c19 : ¬ qq = 1 := fun zq => c19 ((nI_eq (a := qq) (b := 1) (by omega) (by omega)).mpr zq)
        refine lv_aload_n hx hb dX8_taken_30 rfl (lv_at hl 0 rfl) ?_
        refine lv_iconst (v := nI 5) hx hb dX8_taken_31 (by decide) ?_
        refine lv_aload_n hx hb dX8_taken_32 rfl (lv_at hl 0 rfl) ?_
        refine q_get C hP hY1 rfl inX8 12 (by decide) g1179 rfl dX8_taken_33 ?_
        refine lv_iload_n hx hb dX8_taken_36 rfl (lv_at hl 1 rfl) ?_
        refine q_ialdN C hP s1_1 (by omega) (by omega) dX8_taken_37 ?_
        rw [(hg1_ pp (by omega)).2]
        refine lv_iload_n hx hb dX8_taken_38 rfl (lv_at hl 2 rfl) ?_
        refine lv_iconst (v := nI 1) hx hb dX8_taken_39 (by decide) ?_
        refine q_isubN hx hb dX8_taken_40 (by omega) ?_
        refine lv_lconst (v := 0) hx hb dX8_taken_41 (by decide) ?_
        refine lv_lconst (v := 0) hx hb dX8_taken_42 (by decide) ?_
        refine q_callV (rest := [.long (a.2.2.1 pp), .ref y]) C (w_cell l D cy N0 h y A o a k 5 (a.2.2.2 pp) (qq - 1) 0 0 hS (by omega)) kX8_cell g1305 g1307 rfl gp47 g4 hP hS9 hY1 (by first | decide | omega) hl.1 rfl (by simp [q_catrf, q_cati, q_catl, q_cata, q_catn]) (by first | decide | omega) dX8_taken_43 (fun q ce E h' H1 locs1 hE => hE.elim) (fun v hh1 H locs hq hP hS9 => ?_)
        obtain ⟨rfl, Aq1, hSq1, hFq1⟩ := hq
        have nAq1 : ¬ Aq1 y := fun z => (hFq1.2.2 y z).elim nA (fun q => q _ hY1)
        replace hS := hSq1
        have hFt1 := hFq1
        obtain ⟨fi2, re2, rc2, rs2, so2, ot2, cn2, la2, F2, Rt2, Rc2, Rs2, So2, Ot2, Cn2, La2, hY2, ⟨s0_2, s1_2, s2_2, s3_2, s4_2, s5_2, s6_2, s7_2⟩, hg2_, hk2_, hz2_, hd2_, he2_, hA2_, hb2_⟩ := id hS
        unfold qYo at hY2
        refine q_callV (rest := []) C (w_cons l D cy N0 hh1 y Aq1 o a (xCell k 5 (a.2.2.2 pp) (qq - 1) 0 0) (a.2.2.1 pp) (k.1) hS (by omega)) kX8_cons g1315 g1317 rfl gp48 g4 hP hS9 hY2 (by first | decide | omega) hl.1 rfl (by decide) (by first | decide | omega) dX8_taken_46 (fun q ce E h' H1 locs1 hE => hE.elim) (fun v hh2 H locs hq hP hS9 => ?_)
        obtain ⟨rfl, Aq2, hSq2, hFq2⟩ := hq
        have nAq2 : ¬ Aq2 y := fun z => (hFq2.2.2 y z).elim nAq1 (fun q => q _ hY2)
        replace hS := hSq2
        have hFt2 := hFt1.tr hFq2 nAq2
        have ex : xTak a k pp qq = (a.1, (xCons a (a.2.2.1 pp) (k.1)), (xCell k 5 (a.2.2.2 pp) (qq - 1) 0 0)) := by unfold xTak; rw [if_neg hn, if_neg c19]
        exact q_iret C hP hS9 ⟨by rw [ex], Aq2, by rw [ex]; exact hS, hFt2, nAq2⟩ (by first | omega | (unfold qGc qGs; omega)) dX8_taken_49
      · replace c19 : qq = 1 := (nI_eq (a := qq) (b := 1) (by omega) (by omega)).mp c19
        refine lv_aload_n hx hb dX8_taken_22 rfl (lv_at hl 0 rfl) ?_
        refine lv_iconst (v := nI 0) hx hb dX8_taken_23 (by decide) ?_
        refine q_callV (rest := [.long (a.2.2.1 pp), .ref y]) C (w_ready l D cy N0 h y A o a k 0 hS nA hL) kX8_ready g1301 g1303 rfl gp46 g4 hP hS9 hY1 (by first | decide | omega) hl.1 rfl (by simp [q_catrf, q_cati, q_catl, q_cata, q_catn]) (by first | decide | omega) dX8_taken_24 (fun q ce E h' H1 locs1 hE => hE.elim) (fun v hh3 H locs hq hP hS9 => ?_)
        obtain ⟨rfl, Aq3, hSq3, hFq3, nAq3⟩ := hq
        replace hS := hSq3
        have hFt3 := hFq3
        obtain ⟨fi3, re3, rc3, rs3, so3, ot3, cn3, la3, F3, Rt3, Rc3, Rs3, So3, Ot3, Cn3, La3, hY3, ⟨s0_3, s1_3, s2_3, s3_3, s4_3, s5_3, s6_3, s7_3⟩, hg3_, hk3_, hz3_, hd3_, he3_, hA3_, hb3_⟩ := id hS
        unfold qYo at hY3
        refine lv_goto (tgt := 46) hx hb dX8_taken_27 (by decide) ?_
        refine q_callV (rest := []) C (w_cons l D cy N0 hh3 y Aq3 o a (xRdy k 0) (a.2.2.1 pp) (k.1) hS (by omega)) kX8_cons g1315 g1317 rfl gp48 g4 hP hS9 hY3 (by first | decide | omega) hl.1 rfl (by decide) (by first | decide | omega) dX8_taken_46 (fun q ce E h' H1 locs1 hE => hE.elim) (fun v hh4 H locs hq hP hS9 => ?_)
        obtain ⟨rfl, Aq4, hSq4, hFq4⟩ := hq
        have nAq4 : ¬ Aq4 y := fun z => (hFq4.2.2 y z).elim nAq3 (fun q => q _ hY3)
        replace hS := hSq4
        have hFt4 := hFt3.tr hFq4 nAq4
        have ex : xTak a k pp qq = (a.1, (xCons a (a.2.2.1 pp) (k.1)), (xRdy k 0)) := by unfold xTak; rw [if_neg hn, if_pos c19]
        exact q_iret C hP hS9 ⟨by rw [ex], Aq4, by rw [ex]; exact hS, hFt4, nAq4⟩ (by first | omega | (unfold qGc qGs; omega)) dX8_taken_49
    · replace c5 : qq = 0 := (nI_eq (a := qq) (b := 0) (by omega) (by omega)).mp c5
      refine lv_iconst (v := nI 0) hx hb dX8_taken_8 (by decide) ?_
      have ex : xTak a k pp qq = (0, a, k) := by unfold xTak; rw [if_pos (by omega)]
      exact q_iret C hP hS9 ⟨by rw [ex], A, by rw [ex]; exact hS, qFy.rf, nA⟩ (by first | omega | (unfold qGc qGs; omega)) dX8_taken_9

def xMap (o : qYf) (a : qWd) (k : qKd) (s w : Nat) (c : Int64) : Nat × qYf × qWd × qKd := if s = 0 then (0, o, a, k) else if xFn w c (a.2.2.1 s) = none then (0, oFa (oCa o (o.2.2.2.2.2.2.2.2.1 + nI 1)) 1, a, k) else (a.1, oCa o (o.2.2.2.2.2.2.2.2.1 + nI 1), xCons a ((xFn w c (a.2.2.1 s)).getD 0) k.1, xCell k 3 (a.2.2.2 s) w c 0)
theorem dX8_mapped_0 : decode cX8_mapped 0 = .ok (.iload_n 1, 1) := by decide +kernel
theorem dX8_mapped_1 : decode cX8_mapped 1 = .ok (.ifCond .ne 5, 3) := by decide +kernel
theorem dX8_mapped_4 : decode cX8_mapped 4 = .ok (.iconst 0, 1) := by decide +kernel
theorem dX8_mapped_5 : decode cX8_mapped 5 = .ok (.ireturn, 1) := by decide +kernel
theorem dX8_mapped_6 : decode cX8_mapped 6 = .ok (.aload_n 0, 1) := by decide +kernel
theorem dX8_mapped_7 : decode cX8_mapped 7 = .ok (.dup, 1) := by decide +kernel
theorem dX8_mapped_8 : decode cX8_mapped 8 = .ok (.getfield 195, 3) := by decide +kernel
theorem dX8_mapped_11 : decode cX8_mapped 11 = .ok (.iconst 1, 1) := by decide +kernel
theorem dX8_mapped_12 : decode cX8_mapped 12 = .ok (.iadd, 1) := by decide +kernel
theorem dX8_mapped_13 : decode cX8_mapped 13 = .ok (.putfield 195, 3) := by decide +kernel
theorem dX8_mapped_16 : decode cX8_mapped 16 = .ok (.aload_n 0, 1) := by decide +kernel
theorem dX8_mapped_17 : decode cX8_mapped 17 = .ok (.iload_n 2, 1) := by decide +kernel
theorem dX8_mapped_18 : decode cX8_mapped 18 = .ok (.lload_n 3, 1) := by decide +kernel
theorem dX8_mapped_19 : decode cX8_mapped 19 = .ok (.aload_n 0, 1) := by decide +kernel
theorem dX8_mapped_20 : decode cX8_mapped 20 = .ok (.getfield 32, 3) := by decide +kernel
theorem dX8_mapped_23 : decode cX8_mapped 23 = .ok (.iload_n 1, 1) := by decide +kernel
theorem dX8_mapped_24 : decode cX8_mapped 24 = .ok (.laload, 1) := by decide +kernel
theorem dX8_mapped_25 : decode cX8_mapped 25 = .ok (.invokevirtual 198, 3) := by decide +kernel
theorem dX8_mapped_28 : decode cX8_mapped 28 = .ok (.lstore 5, 2) := by decide +kernel
theorem dX8_mapped_30 : decode cX8_mapped 30 = .ok (.aload_n 0, 1) := by decide +kernel
theorem dX8_mapped_31 : decode cX8_mapped 31 = .ok (.getfield 155, 3) := by decide +kernel
theorem dX8_mapped_34 : decode cX8_mapped 34 = .ok (.ifCond .eq 7, 3) := by decide +kernel
theorem dX8_mapped_37 : decode cX8_mapped 37 = .ok (.iconst 0, 1) := by decide +kernel
theorem dX8_mapped_38 : decode cX8_mapped 38 = .ok (.goto 23, 3) := by decide +kernel
theorem dX8_mapped_41 : decode cX8_mapped 41 = .ok (.aload_n 0, 1) := by decide +kernel
theorem dX8_mapped_42 : decode cX8_mapped 42 = .ok (.lload 5, 2) := by decide +kernel
theorem dX8_mapped_44 : decode cX8_mapped 44 = .ok (.aload_n 0, 1) := by decide +kernel
theorem dX8_mapped_45 : decode cX8_mapped 45 = .ok (.iconst 3, 1) := by decide +kernel
theorem dX8_mapped_46 : decode cX8_mapped 46 = .ok (.aload_n 0, 1) := by decide +kernel
theorem dX8_mapped_47 : decode cX8_mapped 47 = .ok (.getfield 36, 3) := by decide +kernel
theorem dX8_mapped_50 : decode cX8_mapped 50 = .ok (.iload_n 1, 1) := by decide +kernel
theorem dX8_mapped_51 : decode cX8_mapped 51 = .ok (.iaload, 1) := by decide +kernel
theorem dX8_mapped_52 : decode cX8_mapped 52 = .ok (.iload_n 2, 1) := by decide +kernel
theorem dX8_mapped_53 : decode cX8_mapped 53 = .ok (.lload_n 3, 1) := by decide +kernel
theorem dX8_mapped_54 : decode cX8_mapped 54 = .ok (.lconst 0, 1) := by decide +kernel
theorem dX8_mapped_55 : decode cX8_mapped 55 = .ok (.invokevirtual 188, 3) := by decide +kernel
theorem dX8_mapped_58 : decode cX8_mapped 58 = .ok (.invokevirtual 143, 3) := by decide +kernel
theorem dX8_mapped_61 : decode cX8_mapped 61 = .ok (.ireturn, 1) := by decide +kernel
set_option maxRecDepth 100000 in
set_option maxHeartbeats 4000000 in
theorem w_mapped (l : Launch) (D : va_G) (cy : Nat → ClassId) (N0 : Nat) (h : qH) (y : Nat) (A : Nat → Prop) (o : qYf) (a : qWd) (k : qKd) (ss wq : Nat) (c0 : Int64) (hW : qSy cy h y A o a k) (nA : ¬ A y) (hL : a.2.1 ≤ 50000 ∧ k.2.1 ≤ 50000) (hp : ss < a.1 ∧ ss < 1000000) (hwq : wq ≤ 6) (hfa : o.2.2.2.2.2.2.2.2.2.2.2.1 = 0) : qC l D cy N0 yX8_mapped cX8_mapped 7 (some .int) 2 60 (if ss = 0 ∨ xFn wq c0 (a.2.2.1 ss) = none then 0 else qGc a k) (if ss = 0 ∨ xFn wq c0 (a.2.2.1 ss) = none then 0 else qGs a k) [.ref y, .int (nI ss), .int (nI wq), .long c0] h (fun v h' => v = some (.int (nI (xMap o a k ss wq c0).1)) ∧ ∃ A', qSy cy h' y A' (xMap o a k ss wq c0).2.1 (xMap o a k ss wq c0).2.2.1 (xMap o a k ss wq c0).2.2.2 ∧ qFy h h' y A A' ∧ ¬ A' y) (fun E h' => False) := by
  refine q_ofW (by decide) (by exact Nat.le_of_ble_eq_true rfl) ?_
  intro p e s m below meth c ls C hP hl
  have hx := C.1
  have hb := C.2.1
  have hS9 : va_S (qA N0) s.heap s.heap [] := va_S.rf
  have hl : lv_has ls 7 [(0, .ref y), (1, .int (nI ss)), (2, .int (nI wq)), (3, .long c0)] := hl
  have hle : qle h h := qle_rf
  have hS := hW
  obtain ⟨fi1, re1, rc1, rs1, so1, ot1, cn1, la1, F1, Rt1, Rc1, Rs1, So1, Ot1, Cn1, La1, hY1, ⟨s0_1, s1_1, s2_1, s3_1, s4_1, s5_1, s6_1, s7_1⟩, hg1_, hk1_, hz1_, hd1_, he1_, hA1_, hb1_⟩ := id hS
  unfold qYo at hY1
  have hLk := hL.2
  refine lv_iload_n hx hb dX8_mapped_0 rfl (lv_at hl 1 rfl) ?_
  refine lv_if_ne (tgt := 6) hx hb dX8_mapped_1 (by decide) (fun c1 => ?_) (fun c1 => ?_)
  · replace c1 : ¬ ss = 0 := fun zq => c1 ((nI_eq (a := ss) (b := 0) (by omega) (by omega)).mpr zq)
    refine lv_aload_n hx hb dX8_mapped_6 rfl (lv_at hl 0 rfl) ?_
    refine lv_dup hx hb dX8_mapped_7 rfl ?_
    refine q_get C hP hY1 rfl inX8 5 (by decide) g1172 rfl dX8_mapped_8 ?_
    refine lv_iconst (v := nI 1) hx hb dX8_mapped_11 (by decide) ?_
    refine lv_iadd hx hb dX8_mapped_12 ?_
    refine q_put C hP hS9 hY1 rfl inX8 tyX8 tyX8_ok nmX8 5 (by decide) g1172 rfl rfl rfl (Nat.le_of_ble_eq_true rfl) dX8_mapped_13 (fun H locs hP hS9 => ?_)
    replace hP : qP D N0 (qs h y (.inr (8, [.ref o.1, .ref o.2.1, .ref o.2.2.1, .int o.2.2.2.2.2.2.1, .int o.2.2.2.2.2.2.2.1, .int ((o.2.2.2.2.2.2.2.2.1) + (nI 1)), .int o.2.2.2.2.2.2.2.2.2.1, .ref o.2.2.2.1, .ref o.2.2.2.2.1, .int o.2.2.2.2.2.2.2.2.2.2.1, .int o.2.2.2.2.2.2.2.2.2.2.2.1, .ref fi1, .ref re1, .int (nI a.1), .ref rc1, .ref rs1, .ref so1, .ref ot1, .ref cn1, .ref la1, .int (nI k.1), .ref o.2.2.2.2.2.1, .int o.2.2.2.2.2.2.2.2.2.2.2.2]))) H := hP
    obtain ⟨hv1, ehv1⟩ : ∃ z : qH, z = qs h y (.inr (8, [.ref o.1, .ref o.2.1, .ref o.2.2.1, .int o.2.2.2.2.2.2.1, .int o.2.2.2.2.2.2.2.1, .int ((o.2.2.2.2.2.2.2.2.1) + (nI 1)), .int o.2.2.2.2.2.2.2.2.2.1, .ref o.2.2.2.1, .ref o.2.2.2.2.1, .int o.2.2.2.2.2.2.2.2.2.2.1, .int o.2.2.2.2.2.2.2.2.2.2.2.1, .ref fi1, .ref re1, .int (nI a.1), .ref rc1, .ref rs1, .ref so1, .ref ot1, .ref cn1, .ref la1, .int (nI k.1), .ref o.2.2.2.2.2.1, .int o.2.2.2.2.2.2.2.2.2.2.2.2])) := ⟨_, rfl⟩
    rw [← ehv1] at hP
    have khv1 : ∀ b o, b ≠ y → h b = some o → hv1 b = some o := by rw [ehv1]; exact fun b o nb hb => (qs_ne nb).trans hb
    replace s0_1 := khv1 _ _ (fun q => by subst q; have := s0_1.symm.trans hY1; first | cases this | simp at this) s0_1
    replace s1_1 := khv1 _ _ (fun q => by subst q; have := s1_1.symm.trans hY1; first | cases this | simp at this) s1_1
    replace s2_1 := khv1 _ _ (fun q => by subst q; have := s2_1.symm.trans hY1; first | cases this | simp at this) s2_1
    replace s3_1 := khv1 _ _ (fun q => by subst q; have := s3_1.symm.trans hY1; first | cases this | simp at this) s3_1
    replace s4_1 := khv1 _ _ (fun q => by subst q; have := s4_1.symm.trans hY1; first | cases this | simp at this) s4_1
    replace s5_1 := khv1 _ _ (fun q => by subst q; have := s5_1.symm.trans hY1; first | cases this | simp at this) s5_1
    replace s6_1 := khv1 _ _ (fun q => by subst q; have := s6_1.symm.trans hY1; first | cases this | simp at this) s6_1
    replace s7_1 := khv1 _ _ (fun q => by subst q; have := s7_1.symm.trans hY1; first | cases this | simp at this) s7_1
    replace hY1 : hv1 y = some (.inr (8, [.ref o.1, .ref o.2.1, .ref o.2.2.1, .int o.2.2.2.2.2.2.1, .int o.2.2.2.2.2.2.2.1, .int ((o.2.2.2.2.2.2.2.2.1) + (nI 1)), .int o.2.2.2.2.2.2.2.2.2.1, .ref o.2.2.2.1, .ref o.2.2.2.2.1, .int o.2.2.2.2.2.2.2.2.2.2.1, .int o.2.2.2.2.2.2.2.2.2.2.2.1, .ref fi1, .ref re1, .int (nI a.1), .ref rc1, .ref rs1, .ref so1, .ref ot1, .ref cn1, .ref la1, .int (nI k.1), .ref o.2.2.2.2.2.1, .int o.2.2.2.2.2.2.2.2.2.2.2.2])) := by rw [ehv1]; exact qs_self
    clear ehv1
    replace hS : qSy cy hv1 y A (oCa o (o.2.2.2.2.2.2.2.2.1 + nI 1)) a (k) := ⟨fi1, re1, rc1, rs1, so1, ot1, cn1, la1, F1, Rt1, Rc1, Rs1, So1, Ot1, Cn1, La1, hY1, ⟨s0_1, s1_1, s2_1, s3_1, s4_1, s5_1, s6_1, s7_1⟩, hg1_, hk1_, hz1_, hd1_, he1_, hA1_, hb1_⟩
    have hFq1 : qFy h hv1 y A A := ⟨fun b o hb n1 n2 => khv1 b o n1 hb, fun _ z => z, fun _ z => Or.inl z⟩
    have hFt1 := hFq1
    refine lv_aload_n hx hb dX8_mapped_16 rfl (lv_at hl 0 rfl) ?_
    refine lv_iload_n hx hb dX8_mapped_17 rfl (lv_at hl 2 rfl) ?_
    refine lv_lload_n hx hb dX8_mapped_18 rfl (lv_at hl 3 rfl) ?_
    refine lv_aload_n hx hb dX8_mapped_19 rfl (lv_at hl 0 rfl) ?_
    refine q_get C hP hY1 rfl inX8 11 (by decide) g1178 rfl dX8_mapped_20 ?_
    refine lv_iload_n hx hb dX8_mapped_23 rfl (lv_at hl 1 rfl) ?_
    refine q_laldN C hP s0_1 (by omega) (by omega) dX8_mapped_24 ?_
    rw [(hg1_ ss (by omega)).1]
    refine q_callV (rest := []) C (c_X8_function l D cy N0 hv1 y (o.1) (o.2.1) (o.2.2.1) (o.2.2.2.1) (o.2.2.2.2.1) fi1 re1 rc1 rs1 so1 ot1 cn1 la1 (o.2.2.2.2.2.1) (o.2.2.2.2.2.2.1) (o.2.2.2.2.2.2.2.1) ((o.2.2.2.2.2.2.2.2.1) + (nI 1)) (o.2.2.2.2.2.2.2.2.2.1) (o.2.2.2.2.2.2.2.2.2.2.1) (o.2.2.2.2.2.2.2.2.2.2.2.1) (nI a.1) (nI k.1) (o.2.2.2.2.2.2.2.2.2.2.2.2) wq (a.2.2.1 ss) c0 hY1 (by omega)) kX8_function g1339 g1341 rfl gp52 g4 hP hS9 hY1 (by first | decide | omega) hl.1 rfl (by decide) (by first | decide | omega) dX8_mapped_25 (fun q ce E h' H1 locs1 hE => hE.elim) (fun v hh1 H locs hq hP hS9 => ?_)
    rcases hq with ⟨r8, er8, rfl, rfl⟩ | ⟨er8, rfl, rfl⟩
    · refine lv_lstore (lv' := [(5, .long r8), (0, .ref y), (1, .int (nI ss)), (2, .int (nI wq)), (3, .long c0)]) hx hb dX8_mapped_28 hl (by decide) rfl (fun ls hl => ?_)
      refine lv_aload_n hx hb dX8_mapped_30 rfl (lv_at hl 1 rfl) ?_
      refine q_get C hP hY1 rfl inX8 10 (by decide) g1177 rfl dX8_mapped_31 ?_
      refine lv_if_eq (tgt := 41) hx hb dX8_mapped_34 (by decide) (fun _ => ?_) (fun c => absurd hfa c)
      have eg : (if ss = 0 ∨ xFn wq c0 (a.2.2.1 ss) = none then 0 else qGc a k) = (if k.1 = k.2.1 then 6 else 0) + (if a.1 = a.2.1 then 2 else 0) ∧ (if ss = 0 ∨ xFn wq c0 (a.2.2.1 ss) = none then 0 else qGs a k) = (if k.1 = k.2.1 then 12 * k.2.1 else 0) + (if a.1 = a.2.1 then 4 * a.2.1 else 0) := by have hn : ¬ (ss = 0 ∨ xFn wq c0 (a.2.2.1 ss) = none) := fun z => z.elim c1 (fun z => by rw [er8] at z; cases z); exact ⟨if_neg hn, if_neg hn⟩
      obtain ⟨eg3, eg4⟩ := eg
      refine lv_aload_n hx hb dX8_mapped_41 rfl (lv_at hl 1 rfl) ?_
      refine lv_lload hx hb dX8_mapped_42 (lv_at hl 0 rfl) ?_
      refine lv_aload_n hx hb dX8_mapped_44 rfl (lv_at hl 1 rfl) ?_
      refine lv_iconst (v := nI 3) hx hb dX8_mapped_45 (by decide) ?_
      refine lv_aload_n hx hb dX8_mapped_46 rfl (lv_at hl 1 rfl) ?_
      refine q_get C hP hY1 rfl inX8 12 (by decide) g1179 rfl dX8_mapped_47 ?_
      refine lv_iload_n hx hb dX8_mapped_50 rfl (lv_at hl 2 rfl) ?_
      refine q_ialdN C hP s1_1 (by omega) (by omega) dX8_mapped_51 ?_
      rw [(hg1_ ss (by omega)).2]
      refine lv_iload_n hx hb dX8_mapped_52 rfl (lv_at hl 3 rfl) ?_
      refine lv_lload_n hx hb dX8_mapped_53 rfl (lv_at hl 4 rfl) ?_
      refine lv_lconst (v := 0) hx hb dX8_mapped_54 (by decide) ?_
      refine q_callV (rest := [.long r8, .ref y]) C (w_cell l D cy N0 hv1 y A (oCa o (o.2.2.2.2.2.2.2.2.1 + nI 1)) a k 3 (a.2.2.2 ss) wq c0 0 hS (by omega)) kX8_cell g1305 g1307 rfl gp47 g4 hP hS9 hY1 (by first | decide | omega) hl.1 rfl (by simp [q_catrf, q_cati, q_catl, q_cata, q_catn]) (by first | decide | omega) dX8_mapped_55 (fun q ce E h' H1 locs1 hE => hE.elim) (fun v hh2 H locs hq hP hS9 => ?_)
      obtain ⟨rfl, Aq2, hSq2, hFq2⟩ := hq
      have nAq2 : ¬ Aq2 y := fun z => (hFq2.2.2 y z).elim nA (fun q => q _ hY1)
      replace hS := hSq2
      have hFt2 := hFt1.tr hFq2 nAq2
      obtain ⟨fi2, re2, rc2, rs2, so2, ot2, cn2, la2, F2, Rt2, Rc2, Rs2, So2, Ot2, Cn2, La2, hY2, ⟨s0_2, s1_2, s2_2, s3_2, s4_2, s5_2, s6_2, s7_2⟩, hg2_, hk2_, hz2_, hd2_, he2_, hA2_, hb2_⟩ := id hS
      unfold qYo at hY2
      dsimp only [oCa, oMv, oFa] at hY2
      refine q_callV (rest := []) C (w_cons l D cy N0 hh2 y Aq2 (oCa o (o.2.2.2.2.2.2.2.2.1 + nI 1)) a (xCell k 3 (a.2.2.2 ss) wq c0 0) r8 (k.1) hS (by omega)) kX8_cons g1315 g1317 rfl gp48 g4 hP hS9 hY2 (by first | decide | omega) hl.1 rfl (by decide) (by first | decide | omega) dX8_mapped_58 (fun q ce E h' H1 locs1 hE => hE.elim) (fun v hh3 H locs hq hP hS9 => ?_)
      obtain ⟨rfl, Aq3, hSq3, hFq3⟩ := hq
      have nAq3 : ¬ Aq3 y := fun z => (hFq3.2.2 y z).elim nAq2 (fun q => q _ hY2)
      replace hS := hSq3
      have hFt3 := hFt2.tr hFq3 nAq3
      have ex : xMap o a k ss wq c0 = (a.1, oCa o (o.2.2.2.2.2.2.2.2.1 + nI 1), xCons a r8 k.1, xCell k 3 (a.2.2.2 ss) wq c0 0) := by unfold xMap; rw [if_neg c1, er8, if_neg (by simp)]; rfl
      exact q_iret C hP hS9 ⟨by rw [ex], Aq3, by rw [ex]; exact hS, hFt3, nAq3⟩ (by omega) dX8_mapped_61
    · replace hP : qP D N0 (qs hv1 y (.inr (8, [.ref o.1, .ref o.2.1, .ref o.2.2.1, .int o.2.2.2.2.2.2.1, .int o.2.2.2.2.2.2.2.1, .int ((o.2.2.2.2.2.2.2.2.1) + (nI 1)), .int o.2.2.2.2.2.2.2.2.2.1, .ref o.2.2.2.1, .ref o.2.2.2.2.1, .int o.2.2.2.2.2.2.2.2.2.2.1, .int 1, .ref fi1, .ref re1, .int (nI a.1), .ref rc1, .ref rs1, .ref so1, .ref ot1, .ref cn1, .ref la1, .int (nI k.1), .ref o.2.2.2.2.2.1, .int o.2.2.2.2.2.2.2.2.2.2.2.2]))) H := hP
      obtain ⟨hv2, ehv2⟩ : ∃ z : qH, z = qs hv1 y (.inr (8, [.ref o.1, .ref o.2.1, .ref o.2.2.1, .int o.2.2.2.2.2.2.1, .int o.2.2.2.2.2.2.2.1, .int ((o.2.2.2.2.2.2.2.2.1) + (nI 1)), .int o.2.2.2.2.2.2.2.2.2.1, .ref o.2.2.2.1, .ref o.2.2.2.2.1, .int o.2.2.2.2.2.2.2.2.2.2.1, .int 1, .ref fi1, .ref re1, .int (nI a.1), .ref rc1, .ref rs1, .ref so1, .ref ot1, .ref cn1, .ref la1, .int (nI k.1), .ref o.2.2.2.2.2.1, .int o.2.2.2.2.2.2.2.2.2.2.2.2])) := ⟨_, rfl⟩
      rw [← ehv2] at hP
      have khv2 : ∀ b o, b ≠ y → hv1 b = some o → hv2 b = some o := by rw [ehv2]; exact fun b o nb hb => (qs_ne nb).trans hb
      replace s0_1 := khv2 _ _ (fun q => by subst q; have := s0_1.symm.trans hY1; first | cases this | simp at this) s0_1
      replace s1_1 := khv2 _ _ (fun q => by subst q; have := s1_1.symm.trans hY1; first | cases this | simp at this) s1_1
      replace s2_1 := khv2 _ _ (fun q => by subst q; have := s2_1.symm.trans hY1; first | cases this | simp at this) s2_1
      replace s3_1 := khv2 _ _ (fun q => by subst q; have := s3_1.symm.trans hY1; first | cases this | simp at this) s3_1
      replace s4_1 := khv2 _ _ (fun q => by subst q; have := s4_1.symm.trans hY1; first | cases this | simp at this) s4_1
      replace s5_1 := khv2 _ _ (fun q => by subst q; have := s5_1.symm.trans hY1; first | cases this | simp at this) s5_1
      replace s6_1 := khv2 _ _ (fun q => by subst q; have := s6_1.symm.trans hY1; first | cases this | simp at this) s6_1
      replace s7_1 := khv2 _ _ (fun q => by subst q; have := s7_1.symm.trans hY1; first | cases this | simp at this) s7_1
      replace hY1 : hv2 y = some (.inr (8, [.ref o.1, .ref o.2.1, .ref o.2.2.1, .int o.2.2.2.2.2.2.1, .int o.2.2.2.2.2.2.2.1, .int ((o.2.2.2.2.2.2.2.2.1) + (nI 1)), .int o.2.2.2.2.2.2.2.2.2.1, .ref o.2.2.2.1, .ref o.2.2.2.2.1, .int o.2.2.2.2.2.2.2.2.2.2.1, .int 1, .ref fi1, .ref re1, .int (nI a.1), .ref rc1, .ref rs1, .ref so1, .ref ot1, .ref cn1, .ref la1, .int (nI k.1), .ref o.2.2.2.2.2.1, .int o.2.2.2.2.2.2.2.2.2.2.2.2])) := by rw [ehv2]; exact qs_self
      clear ehv2
      replace hS : qSy cy hv2 y A (oFa ((oCa o (o.2.2.2.2.2.2.2.2.1 + nI 1))) 1) a (k) := ⟨fi1, re1, rc1, rs1, so1, ot1, cn1, la1, F1, Rt1, Rc1, Rs1, So1, Ot1, Cn1, La1, hY1, ⟨s0_1, s1_1, s2_1, s3_1, s4_1, s5_1, s6_1, s7_1⟩, hg1_, hk1_, hz1_, hd1_, he1_, hA1_, hb1_⟩
      have hFq4 : qFy hv1 hv2 y A A := ⟨fun b o hb n1 n2 => khv2 b o n1 hb, fun _ z => z, fun _ z => Or.inl z⟩
      have hFt4 := hFt1.tr hFq4 nA
      refine lv_lstore (lv' := [(5, .long 0), (0, .ref y), (1, .int (nI ss)), (2, .int (nI wq)), (3, .long c0)]) hx hb dX8_mapped_28 hl (by decide) rfl (fun ls hl => ?_)
      refine lv_aload_n hx hb dX8_mapped_30 rfl (lv_at hl 1 rfl) ?_
      refine q_get C hP hY1 rfl inX8 10 (by decide) g1177 rfl dX8_mapped_31 ?_
      refine lv_if_eq (tgt := 41) hx hb dX8_mapped_34 (by decide) (fun c => absurd c (by decide)) (fun _ => ?_)
      refine lv_iconst (v := nI 0) hx hb dX8_mapped_37 (by decide) ?_
      refine lv_goto (tgt := 61) hx hb dX8_mapped_38 (by decide) ?_
      have ex : xMap o a k ss wq c0 = (0, oFa (oCa o (o.2.2.2.2.2.2.2.2.1 + nI 1)) 1, a, k) := by unfold xMap; rw [if_neg c1, if_pos er8]
      exact q_iret C hP hS9 ⟨by rw [ex], A, by rw [ex]; exact hS, hFt4, nA⟩ (by omega) dX8_mapped_61
  · replace c1 : ss = 0 := (nI_eq (a := ss) (b := 0) (by omega) (by omega)).mp c1
    refine lv_iconst (v := nI 0) hx hb dX8_mapped_4 (by decide) ?_
    have ex : xMap o a k ss wq c0 = (0, o, a, k) := by unfold xMap; rw [if_pos c1]
    exact q_iret C hP hS9 ⟨by rw [ex], A, by rw [ex]; exact hS, qFy.rf, nA⟩ (by omega) dX8_mapped_5
