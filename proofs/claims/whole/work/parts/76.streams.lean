/-- what the rows' growth costs, if one cons and one cell come -/
def qGc (a : qWd) (k : qKd) : Nat := (if k.1 = k.2.1 then 6 else 0) + (if a.1 = a.2.1 then 2 else 0)
def qGs (a : qWd) (k : qKd) : Nat := (if k.1 = k.2.1 then 12 * k.2.1 else 0) + (if a.1 = a.2.1 then 4 * a.2.1 else 0)
def xJoin (a : qWd) (k : qKd) (p q : Nat) : Nat × qWd × qKd := if p = 0 then (q, a, k) else (a.1, xCons a (a.2.2.1 p) k.1, xCell k 6 (a.2.2.2 p) q 0 0)
def xTake (a : qWd) (k : qKd) (p q : Nat) : Nat × qWd × qKd := if p = 0 ∨ q = 0 then (0, a, k) else if q = 1 then (a.1, xCons a (a.2.2.1 p) k.1, xCell k 0 0 0 0 0) else (a.1, xCons a (a.2.2.1 p) k.1, xCell k 5 (a.2.2.2 p) (q - 1) 0 0)
theorem dX8_joined_0 : decode cX8_joined 0 = .ok (.iload_n 1, 1) := by decide +kernel
theorem dX8_joined_1 : decode cX8_joined 1 = .ok (.ifCond .ne 7, 3) := by decide +kernel
theorem dX8_joined_4 : decode cX8_joined 4 = .ok (.iload_n 2, 1) := by decide +kernel
theorem dX8_joined_5 : decode cX8_joined 5 = .ok (.goto 28, 3) := by decide +kernel
theorem dX8_joined_8 : decode cX8_joined 8 = .ok (.aload_n 0, 1) := by decide +kernel
theorem dX8_joined_9 : decode cX8_joined 9 = .ok (.aload_n 0, 1) := by decide +kernel
theorem dX8_joined_10 : decode cX8_joined 10 = .ok (.getfield 32, 3) := by decide +kernel
theorem dX8_joined_13 : decode cX8_joined 13 = .ok (.iload_n 1, 1) := by decide +kernel
theorem dX8_joined_14 : decode cX8_joined 14 = .ok (.laload, 1) := by decide +kernel
theorem dX8_joined_15 : decode cX8_joined 15 = .ok (.aload_n 0, 1) := by decide +kernel
theorem dX8_joined_16 : decode cX8_joined 16 = .ok (.bipush 6, 2) := by decide +kernel
theorem dX8_joined_18 : decode cX8_joined 18 = .ok (.aload_n 0, 1) := by decide +kernel
theorem dX8_joined_19 : decode cX8_joined 19 = .ok (.getfield 36, 3) := by decide +kernel
theorem dX8_joined_22 : decode cX8_joined 22 = .ok (.iload_n 1, 1) := by decide +kernel
theorem dX8_joined_23 : decode cX8_joined 23 = .ok (.iaload, 1) := by decide +kernel
theorem dX8_joined_24 : decode cX8_joined 24 = .ok (.iload_n 2, 1) := by decide +kernel
theorem dX8_joined_25 : decode cX8_joined 25 = .ok (.lconst 0, 1) := by decide +kernel
theorem dX8_joined_26 : decode cX8_joined 26 = .ok (.lconst 0, 1) := by decide +kernel
theorem dX8_joined_27 : decode cX8_joined 27 = .ok (.invokevirtual 188, 3) := by decide +kernel
theorem dX8_joined_30 : decode cX8_joined 30 = .ok (.invokevirtual 143, 3) := by decide +kernel
theorem dX8_joined_33 : decode cX8_joined 33 = .ok (.ireturn, 1) := by decide +kernel
set_option maxRecDepth 100000 in
set_option maxHeartbeats 4000000 in
theorem w_joined (l : Launch) (D : va_G) (cy : Nat → ClassId) (N0 : Nat) (h : qH) (y : Nat) (A : Nat → Prop) (o : qYf) (a : qWd) (k : qKd) (pp qq : Nat) (hW : qSy cy h y A o a k) (nA : ¬ A y) (hL : a.2.1 ≤ 50000 ∧ k.2.1 ≤ 50000) (hp : pp < a.1 ∧ pp < 1000000) (hq9 : qq < 1000000) : qC l D cy N0 yX8_joined cX8_joined 3 (some .int) 2 60 (if pp = 0 then 0 else qGc a k) (if pp = 0 then 0 else qGs a k) [.ref y, .int (nI pp), .int (nI qq)] h (fun v h' => v = some (.int (nI (xJoin a k pp qq).1)) ∧ ∃ A', qSy cy h' y A' o (xJoin a k pp qq).2.1 (xJoin a k pp qq).2.2 ∧ qFy h h' y A A' ∧ ¬ A' y) (fun E h' => False) := by
  refine q_ofW (by decide) (by exact Nat.le_of_ble_eq_true rfl) ?_
  intro p e s m below meth c ls C hP hl
  have hx := C.1
  have hb := C.2.1
  have hS9 : va_S (qA N0) s.heap s.heap [] := va_S.rf
  have hl : lv_has ls 3 [(0, .ref y), (1, .int (nI pp)), (2, .int (nI qq))] := hl
  have hle : qle h h := qle_rf
  have hS := hW
  obtain ⟨fi1, re1, rc1, rs1, so1, ot1, cn1, la1, F1, Rt1, Rc1, Rs1, So1, Ot1, Cn1, La1, hY1, ⟨s0_1, s1_1, s2_1, s3_1, s4_1, s5_1, s6_1, s7_1⟩, hg1_, hk1_, hz1_, hd1_, he1_, hA1_, hb1_⟩ := id hS
  unfold qYo at hY1
  have hLk := hL.2
  refine lv_iload_n hx hb dX8_joined_0 rfl (lv_at hl 1 rfl) ?_
  refine lv_if_ne (tgt := 8) hx hb dX8_joined_1 (by decide) (fun c1 => ?_) (fun c1 => ?_)
  · replace c1 : ¬ pp = 0 := fun zq => c1 ((nI_eq (a := pp) (b := 0) (by omega) (by omega)).mpr zq)
    have eg : (if pp = 0 then 0 else qGc a k) = (if k.1 = k.2.1 then 6 else 0) + (if a.1 = a.2.1 then 2 else 0) ∧ (if pp = 0 then 0 else qGs a k) = (if k.1 = k.2.1 then 12 * k.2.1 else 0) + (if a.1 = a.2.1 then 4 * a.2.1 else 0) := ⟨if_neg c1, if_neg c1⟩
    obtain ⟨eg1, eg2⟩ := eg
    refine lv_aload_n hx hb dX8_joined_8 rfl (lv_at hl 0 rfl) ?_
    refine lv_aload_n hx hb dX8_joined_9 rfl (lv_at hl 0 rfl) ?_
    refine q_get C hP hY1 rfl inX8 11 (by decide) g1178 rfl dX8_joined_10 ?_
    refine lv_iload_n hx hb dX8_joined_13 rfl (lv_at hl 1 rfl) ?_
    refine q_laldN C hP s0_1 (by omega) (by omega) dX8_joined_14 ?_
    rw [(hg1_ pp (by omega)).1]
    refine lv_aload_n hx hb dX8_joined_15 rfl (lv_at hl 0 rfl) ?_
    refine lv_bipush (v := nI 6) hx hb dX8_joined_16 (by decide) ?_
    refine lv_aload_n hx hb dX8_joined_18 rfl (lv_at hl 0 rfl) ?_
    refine q_get C hP hY1 rfl inX8 12 (by decide) g1179 rfl dX8_joined_19 ?_
    refine lv_iload_n hx hb dX8_joined_22 rfl (lv_at hl 1 rfl) ?_
    refine q_ialdN C hP s1_1 (by omega) (by omega) dX8_joined_23 ?_
    rw [(hg1_ pp (by omega)).2]
    refine lv_iload_n hx hb dX8_joined_24 rfl (lv_at hl 2 rfl) ?_
    refine lv_lconst (v := 0) hx hb dX8_joined_25 (by decide) ?_
    refine lv_lconst (v := 0) hx hb dX8_joined_26 (by decide) ?_
    refine q_callV (rest := [.long (a.2.2.1 pp), .ref y]) C (w_cell l D cy N0 h y A o a k 6 (a.2.2.2 pp) qq 0 0 hS (by omega)) kX8_cell g1305 g1307 rfl gp47 g4 hP hS9 hY1 (by first | decide | omega) hl.1 rfl (by simp [q_catrf, q_cati, q_catl, q_cata, q_catn]) (by first | decide | omega) dX8_joined_27 (fun q ce E h' H1 locs1 hE => hE.elim) (fun v hh1 H locs hq hP hS9 => ?_)
    obtain ⟨rfl, Aq1, hSq1, hFq1⟩ := hq
    have nAq1 : ¬ Aq1 y := fun z => (hFq1.2.2 y z).elim nA (fun q => q _ hY1)
    replace hS := hSq1
    have hFt1 := hFq1
    obtain ⟨fi2, re2, rc2, rs2, so2, ot2, cn2, la2, F2, Rt2, Rc2, Rs2, So2, Ot2, Cn2, La2, hY2, ⟨s0_2, s1_2, s2_2, s3_2, s4_2, s5_2, s6_2, s7_2⟩, hg2_, hk2_, hz2_, hd2_, he2_, hA2_, hb2_⟩ := id hS
    unfold qYo at hY2
    refine q_callV (rest := []) C (w_cons l D cy N0 hh1 y Aq1 o a (xCell k 6 (a.2.2.2 pp) qq 0 0) (a.2.2.1 pp) (k.1) hS (by omega)) kX8_cons g1315 g1317 rfl gp48 g4 hP hS9 hY2 (by first | decide | omega) hl.1 rfl (by decide) (by first | decide | omega) dX8_joined_30 (fun q ce E h' H1 locs1 hE => hE.elim) (fun v hh2 H locs hq hP hS9 => ?_)
    obtain ⟨rfl, Aq2, hSq2, hFq2⟩ := hq
    have nAq2 : ¬ Aq2 y := fun z => (hFq2.2.2 y z).elim nAq1 (fun q => q _ hY2)
    replace hS := hSq2
    have hFt2 := hFt1.tr hFq2 nAq2
    have ex : xJoin a k pp qq = (a.1, (xCons a (a.2.2.1 pp) (k.1)), (xCell k 6 (a.2.2.2 pp) qq 0 0)) := by unfold xJoin; rw [if_neg c1]
    exact q_iret C hP hS9 ⟨by rw [ex], Aq2, by rw [ex]; exact hS, hFt2, nAq2⟩ (by first | omega | (unfold qGc qGs; omega)) dX8_joined_33
  · replace c1 : pp = 0 := (nI_eq (a := pp) (b := 0) (by omega) (by omega)).mp c1
    refine lv_iload_n hx hb dX8_joined_4 rfl (lv_at hl 2 rfl) ?_
    refine lv_goto (tgt := 33) hx hb dX8_joined_5 (by decide) ?_
    have ex : xJoin a k pp qq = (qq, a, k) := by unfold xJoin; rw [if_pos c1]
    exact q_iret C hP hS9 ⟨by rw [ex], A, by rw [ex]; exact hS, qFy.rf, nA⟩ (by first | omega | (unfold qGc qGs; omega)) dX8_joined_33
