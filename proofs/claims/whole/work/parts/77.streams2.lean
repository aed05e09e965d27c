/-- a cell that is worked out already -/
def xRdy (k : qKd) (s : Nat) : qKd := (k.1 + 1, if k.1 = k.2.1 then 2 * k.2.1 else k.2.1, qU k.2.2.1 k.1 0, qU (qU k.2.2.2.1 k.1 0) k.1 s, qU k.2.2.2.2.1 k.1 0, qU k.2.2.2.2.2.1 k.1 0, qU k.2.2.2.2.2.2.1 k.1 0, qU k.2.2.2.2.2.2.2 k.1 0)
def xTak (a : qWd) (k : qKd) (p q : Nat) : Nat × qWd × qKd := if p = 0 ∨ q = 0 then (0, a, k) else if q = 1 then (a.1, xCons a (a.2.2.1 p) k.1, xRdy k 0) else (a.1, xCons a (a.2.2.1 p) k.1, xCell k 5 (a.2.2.2 p) (q - 1) 0 0)
/-- the object's count of calls, its moves, its fault -/
def oCa (o : qYf) (x : Int32) : qYf := (o.1, o.2.1, o.2.2.1, o.2.2.2.1, o.2.2.2.2.1, o.2.2.2.2.2.1, o.2.2.2.2.2.2.1, o.2.2.2.2.2.2.2.1, x, o.2.2.2.2.2.2.2.2.2.1, o.2.2.2.2.2.2.2.2.2.2.1, o.2.2.2.2.2.2.2.2.2.2.2.1, o.2.2.2.2.2.2.2.2.2.2.2.2)
def oMv (o : qYf) (x : Int32) : qYf := (o.1, o.2.1, o.2.2.1, o.2.2.2.1, o.2.2.2.2.1, o.2.2.2.2.2.1, o.2.2.2.2.2.2.1, o.2.2.2.2.2.2.2.1, o.2.2.2.2.2.2.2.2.1, x, o.2.2.2.2.2.2.2.2.2.2.1, o.2.2.2.2.2.2.2.2.2.2.2.1, o.2.2.2.2.2.2.2.2.2.2.2.2)
def oFa (o : qYf) (x : Int32) : qYf := (o.1, o.2.1, o.2.2.1, o.2.2.2.1, o.2.2.2.2.1, o.2.2.2.2.2.1, o.2.2.2.2.2.2.1, o.2.2.2.2.2.2.2.1, o.2.2.2.2.2.2.2.2.1, o.2.2.2.2.2.2.2.2.2.1, o.2.2.2.2.2.2.2.2.2.2.1, x, o.2.2.2.2.2.2.2.2.2.2.2.2)
def qGk1 (k : qKd) : Nat := if k.1 = k.2.1 then 6 else 0
def qGk2 (k : qKd) : Nat := if k.1 = k.2.1 then 12 * k.2.1 else 0
theorem dX8_ready_0 : decode cX8_ready 0 = .ok (.aload_n 0, 1) := by decide +kernel
theorem dX8_ready_1 : decode cX8_ready 1 = .ok (.iconst 0, 1) := by decide +kernel
theorem dX8_ready_2 : decode cX8_ready 2 = .ok (.iconst 0, 1) := by decide +kernel
theorem dX8_ready_3 : decode cX8_ready 3 = .ok (.iconst 0, 1) := by decide +kernel
theorem dX8_ready_4 : decode cX8_ready 4 = .ok (.lconst 0, 1) := by decide +kernel
theorem dX8_ready_5 : decode cX8_ready 5 = .ok (.lconst 0, 1) := by decide +kernel
theorem dX8_ready_6 : decode cX8_ready 6 = .ok (.invokevirtual 188, 3) := by decide +kernel
theorem dX8_ready_9 : decode cX8_ready 9 = .ok (.istore_n 2, 1) := by decide +kernel
theorem dX8_ready_10 : decode cX8_ready 10 = .ok (.aload_n 0, 1) := by decide +kernel
theorem dX8_ready_11 : decode cX8_ready 11 = .ok (.getfield 46, 3) := by decide +kernel
theorem dX8_ready_14 : decode cX8_ready 14 = .ok (.iload_n 2, 1) := by decide +kernel
theorem dX8_ready_15 : decode cX8_ready 15 = .ok (.iload_n 1, 1) := by decide +kernel
theorem dX8_ready_16 : decode cX8_ready 16 = .ok (.iastore, 1) := by decide +kernel
theorem dX8_ready_17 : decode cX8_ready 17 = .ok (.iload_n 2, 1) := by decide +kernel
theorem dX8_ready_18 : decode cX8_ready 18 = .ok (.ireturn, 1) := by decide +kernel
set_option maxRecDepth 100000 in
set_option maxHeartbeats 4000000 in
theorem w_ready (l : Launch) (D : va_G) (cy : Nat → ClassId) (N0 : Nat) (h : qH) (y : Nat) (A : Nat → Prop) (o : qYf) (a : qWd) (k : qKd) (ss : Nat) (hW : qSy cy h y A o a k) (nA : ¬ A y) (hL : a.2.1 ≤ 50000 ∧ k.2.1 ≤ 50000) : qC l D cy N0 yX8_ready cX8_ready 3 (some .int) 2 60 (qGk1 k) (qGk2 k) [.ref y, .int (nI ss)] h (fun v h' => v = some (.int (nI k.1)) ∧ ∃ A', qSy cy h' y A' o a (xRdy k ss) ∧ qFy h h' y A A' ∧ ¬ A' y) (fun E h' => False) := by
  refine q_ofW (by decide) (by exact Nat.le_of_ble_eq_true rfl) ?_
  intro p e s m below meth c ls C hP hl
  have hx := C.1
  have hb := C.2.1
  have hS9 : va_S (qA N0) s.heap s.heap [] := va_S.rf
  have hl : lv_has ls 3 [(0, .ref y), (1, .int (nI ss))] := hl
  have hle : qle h h := qle_rf
  have hS := hW
  obtain ⟨fi1, re1, rc1, rs1, so1, ot1, cn1, la1, F1, Rt1, Rc1, Rs1, So1, Ot1, Cn1, La1, hY1, ⟨s0_1, s1_1, s2_1, s3_1, s4_1, s5_1, s6_1, s7_1⟩, hg1_, hk1_, hz1_, hd1_, he1_, hA1_, hb1_⟩ := id hS
  unfold qYo at hY1
  have hLk := hL.2
  have eg1 : qGk1 k = (if k.1 = k.2.1 then 6 else 0) := rfl
  have eg2 : qGk2 k = (if k.1 = k.2.1 then 12 * k.2.1 else 0) := rfl
  refine lv_aload_n hx hb dX8_ready_0 rfl (lv_at hl 0 rfl) ?_
  refine lv_iconst (v := nI 0) hx hb dX8_ready_1 (by decide) ?_
  refine lv_iconst (v := nI 0) hx hb dX8_ready_2 (by decide) ?_
  refine lv_iconst (v := nI 0) hx hb dX8_ready_3 (by decide) ?_
  refine lv_lconst (v := 0) hx hb dX8_ready_4 (by decide) ?_
  refine lv_lconst (v := 0) hx hb dX8_ready_5 (by decide) ?_
  refine q_callV (rest := []) C (w_cell l D cy N0 h y A o a k 0 0 0 0 0 hS (by omega)) kX8_cell g1305 g1307 rfl gp47 g4 hP hS9 hY1 (by first | decide | omega) hl.1 rfl (by decide) (by first | decide | omega) dX8_ready_6 (fun q ce E h' H1 locs1 hE => hE.elim) (fun v hh1 H locs hq hP hS9 => ?_)
  obtain ⟨rfl, Aq1, hSq1, hFq1⟩ := hq
  have nAq1 : ¬ Aq1 y := fun z => (hFq1.2.2 y z).elim nA (fun q => q _ hY1)
  replace hS := hSq1
  have hFt1 := hFq1
  obtain ⟨fi2, re2, rc2, rs2, so2, ot2, cn2, la2, F2, Rt2, Rc2, Rs2, So2, Ot2, Cn2, La2, hY2, ⟨s0_2, s1_2, s2_2, s3_2, s4_2, s5_2, s6_2, s7_2⟩, hg2_, hk2_, hz2_, hd2_, he2_, hA2_, hb2_⟩ := id hS
  unfold qYo at hY2
  refine lv_istore_n (lv' := [(2, .int (nI k.1)), (0, .ref y), (1, .int (nI ss))]) hx hb dX8_ready_9 rfl hl (by decide) rfl (fun ls hl => ?_)
  have hbk := hb2_
  have xb : k.1 < (xCell k 0 0 0 0 0).2.1 := by have := hbk.2.2.2.1; exact this
  refine lv_aload_n hx hb dX8_ready_10 rfl (lv_at hl 1 rfl) ?_
  refine q_get C hP hY2 rfl inX8 15 (by decide) g1182 rfl dX8_ready_11 ?_
  refine lv_iload_n hx hb dX8_ready_14 rfl (lv_at hl 0 rfl) ?_
  refine lv_iload_n hx hb dX8_ready_15 rfl (lv_at hl 2 rfl) ?_
  refine q_iastN C hP hS9 s3_2 xb (by omega) dX8_ready_16 (fun H locs hP hS9 => ?_)
  obtain ⟨hv1, ehv1⟩ : ∃ z : qH, z = qs hh1 rs2 (.inl (cy 0, (xCell k 0 0 0 0 0).2.1, .inl (upd Rs2 (k.1) (nI ss)))) := ⟨_, rfl⟩
  rw [← ehv1] at hP
  have khv1 : ∀ b o, b ≠ rs2 → hh1 b = some o → hv1 b = some o := by rw [ehv1]; exact fun b o nb hb => (qs_ne nb).trans hb
  replace hY2 := khv1 _ _ (fun q => by subst q; have := hY2.symm.trans s3_2; first | cases this | simp at this) hY2
  replace s0_2 := khv1 _ _ (fun q => by subst q; have := s0_2.symm.trans s3_2; first | cases this | simp at this) s0_2
  replace s1_2 := khv1 _ _ he2_.2.1 s1_2
  replace s2_2 := khv1 _ _ hd2_.1 s2_2
  replace s4_2 := khv1 _ _ (Ne.symm hd2_.2.2.2.1) s4_2
  replace s5_2 := khv1 _ _ (Ne.symm hd2_.2.2.2.2.1) s5_2
  replace s6_2 := khv1 _ _ (fun q => by subst q; have := s6_2.symm.trans s3_2; first | cases this | simp at this) s6_2
  replace s7_2 := khv1 _ _ (fun q => by subst q; have := s7_2.symm.trans s3_2; first | cases this | simp at this) s7_2
  replace s3_2 : hv1 rs2 = some (.inl (cy 0, (xCell k 0 0 0 0 0).2.1, .inl (upd Rs2 (k.1) (nI ss)))) := by rw [ehv1]; exact qs_self
  clear ehv1
  replace hS : qSy cy hv1 y Aq1 (o) a (xRdy k ss) := ⟨fi2, re2, rc2, rs2, so2, ot2, cn2, la2, F2, Rt2, Rc2, upd Rs2 (k.1) (nI ss), So2, Ot2, Cn2, La2, hY2, ⟨s0_2, s1_2, s2_2, s3_2, s4_2, s5_2, s6_2, s7_2⟩, hg2_, (fun j hj => by obtain ⟨z1, z2, z3, z4, z5, z6⟩ := hk2_ j hj; refine ⟨z1, ?_, z3, z4, z5, z6⟩; show upd Rs2 k.1 (nI ss) j = nI (qU (qU k.2.2.2.1 k.1 0) k.1 ss j); by_cases c : j = k.1; exact (by rw [c, qU_at]; exact if_pos rfl); exact (by rw [qU_ne c]; exact (if_neg c).trans z2)), (fun j h1 h2 => (if_neg (by have : k.1 + 1 ≤ j := h1; omega)).trans (hz2_ j h1 h2)), hd2_, he2_, hA2_, hb2_⟩
  have hFq2 : qFy hh1 hv1 y Aq1 Aq1 := ⟨fun b o hb n1 n2 => khv1 b o (fun q => n2 (q ▸ hA2_.2.2.2.1)) hb, fun _ z => z, fun _ z => Or.inl z⟩
  have hFt2 := hFt1.tr hFq2 nAq1
  refine lv_iload_n hx hb dX8_ready_17 rfl (lv_at hl 0 rfl) ?_
  exact q_iret C hP hS9 ⟨rfl, Aq1, hS, hFt2, nAq1⟩ (by omega) dX8_ready_18
