theorem dX8_force_0 : decode cX8_force 0 = .ok (.aload_n 0, 1) := by decide +kernel
theorem dX8_force_1 : decode cX8_force 1 = .ok (.getfield 43, 3) := by decide +kernel
theorem dX8_force_4 : decode cX8_force 4 = .ok (.iload_n 1, 1) := by decide +kernel
theorem dX8_force_5 : decode cX8_force 5 = .ok (.iaload, 1) := by decide +kernel
theorem dX8_force_6 : decode cX8_force 6 = .ok (.ifCond .ne 10, 3) := by decide +kernel
theorem dX8_force_9 : decode cX8_force 9 = .ok (.aload_n 0, 1) := by decide +kernel
theorem dX8_force_10 : decode cX8_force 10 = .ok (.getfield 46, 3) := by decide +kernel
theorem dX8_force_13 : decode cX8_force 13 = .ok (.iload_n 1, 1) := by decide +kernel
theorem dX8_force_14 : decode cX8_force 14 = .ok (.iaload, 1) := by decide +kernel
theorem dX8_force_15 : decode cX8_force 15 = .ok (.ireturn, 1) := by decide +kernel
theorem dX8_force_16 : decode cX8_force 16 = .ok (.aload_n 0, 1) := by decide +kernel
theorem dX8_force_17 : decode cX8_force 17 = .ok (.getfield 124, 3) := by decide +kernel
theorem dX8_force_20 : decode cX8_force 20 = .ok (.sipush 20000, 3) := by decide +kernel
theorem dX8_force_23 : decode cX8_force 23 = .ok (.if_icmp .lt 10, 3) := by decide +kernel
theorem dX8_force_26 : decode cX8_force 26 = .ok (.aload_n 0, 1) := by decide +kernel
theorem dX8_force_27 : decode cX8_force 27 = .ok (.iconst 2, 1) := by decide +kernel
theorem dX8_force_28 : decode cX8_force 28 = .ok (.putfield 155, 3) := by decide +kernel
theorem dX8_force_31 : decode cX8_force 31 = .ok (.iconst 0, 1) := by decide +kernel
theorem dX8_force_32 : decode cX8_force 32 = .ok (.ireturn, 1) := by decide +kernel
theorem dX8_force_33 : decode cX8_force 33 = .ok (.aload_n 0, 1) := by decide +kernel
theorem dX8_force_34 : decode cX8_force 34 = .ok (.dup, 1) := by decide +kernel
theorem dX8_force_35 : decode cX8_force 35 = .ok (.getfield 124, 3) := by decide +kernel
theorem dX8_force_38 : decode cX8_force 38 = .ok (.iconst 1, 1) := by decide +kernel
theorem dX8_force_39 : decode cX8_force 39 = .ok (.iadd, 1) := by decide +kernel
theorem dX8_force_40 : decode cX8_force 40 = .ok (.putfield 124, 3) := by decide +kernel
theorem dX8_force_43 : decode cX8_force 43 = .ok (.aload_n 0, 1) := by decide +kernel
theorem dX8_force_44 : decode cX8_force 44 = .ok (.iload_n 1, 1) := by decide +kernel
theorem dX8_force_45 : decode cX8_force 45 = .ok (.invokevirtual 192, 3) := by decide +kernel
theorem dX8_force_48 : decode cX8_force 48 = .ok (.istore_n 2, 1) := by decide +kernel
theorem dX8_force_49 : decode cX8_force 49 = .ok (.aload_n 0, 1) := by decide +kernel
theorem dX8_force_50 : decode cX8_force 50 = .ok (.getfield 155, 3) := by decide +kernel
theorem dX8_force_53 : decode cX8_force 53 = .ok (.ifCond .eq 5, 3) := by decide +kernel
theorem dX8_force_56 : decode cX8_force 56 = .ok (.iconst 0, 1) := by decide +kernel
theorem dX8_force_57 : decode cX8_force 57 = .ok (.ireturn, 1) := by decide +kernel
theorem dX8_force_58 : decode cX8_force 58 = .ok (.aload_n 0, 1) := by decide +kernel
theorem dX8_force_59 : decode cX8_force 59 = .ok (.getfield 43, 3) := by decide +kernel
theorem dX8_force_62 : decode cX8_force 62 = .ok (.iload_n 1, 1) := by decide +kernel
theorem dX8_force_63 : decode cX8_force 63 = .ok (.iconst 0, 1) := by decide +kernel
theorem dX8_force_64 : decode cX8_force 64 = .ok (.iastore, 1) := by decide +kernel
theorem dX8_force_65 : decode cX8_force 65 = .ok (.aload_n 0, 1) := by decide +kernel
theorem dX8_force_66 : decode cX8_force 66 = .ok (.getfield 46, 3) := by decide +kernel
theorem dX8_force_69 : decode cX8_force 69 = .ok (.iload_n 1, 1) := by decide +kernel
theorem dX8_force_70 : decode cX8_force 70 = .ok (.iload_n 2, 1) := by decide +kernel
theorem dX8_force_71 : decode cX8_force 71 = .ok (.iastore, 1) := by decide +kernel
theorem dX8_force_72 : decode cX8_force 72 = .ok (.iload_n 2, 1) := by decide +kernel
theorem dX8_force_73 : decode cX8_force 73 = .ok (.ireturn, 1) := by decide +kernel
set_option maxRecDepth 100000 in
set_option maxHeartbeats 4000000 in
theorem w_force (l : Launch) (D : va_G) (cy : Nat → ClassId) (N0 : Nat) (h : qH) (y : Nat) (A : Nat → Prop) (o : qYf) (a : qWd) (k : qKd) (R : Nat → List Int64) (ad : Nat → Nat) (Rn : Nat) (Bd sl d : Nat) (dp : Nat → Nat) (cc : Nat) (X : Nat × qWo) (hW : qSy cy h y A o a k) (nA : ¬ A y) (hR : qRz cy h A o.2.2.2.2.2.1 Rn R ad) (hV : qWv Bd sl Rn dp (o, a, k)) (hfa : oFq o = 0) (hB : Bd ≤ 4000) (hF : qFS l D cy N0 y Bd Rn R ad (xForce R d) d) (hRl : ∀ q, q < Rn → (R q).length ≤ 1000) (hcc : cc < a.1) (hdc : dp cc < d + 1) (hX : xForce R (d + 1) (o, a, k) cc = X) : qC l D cy N0 yX8_force cX8_force 3 (some .int) (4 * (d + 1) + 4) (200 * (d + 1) + 200) (qP1 X.2.2.1 - qP1 a) (qP2 X.2.2.1 - qP2 a) [.ref y, .int (nI cc)] h (fun v h' => v = some (.int (nI X.1)) ∧ ∃ A', qSy cy h' y A' X.2.1 X.2.2.1 X.2.2.2 ∧ qFy h h' y A A' ∧ ¬ A' y) (fun E h' => False) := by
  refine q_ofW (by decide) (by exact Nat.le_of_ble_eq_true rfl) ?_
  intro p e s m below meth c ls C hP hl
  have hx := C.1
  have hb := C.2.1
  have hS9 : va_S (qA N0) s.heap s.heap [] := va_S.rf
  have hl : lv_has ls 3 [(0, .ref y), (1, .int (nI cc))] := hl
  have hle : qle h h := qle_rf
  have hS := hW
  obtain ⟨fi1, re1, rc1, rs1, so1, ot1, cn1, la1, F1, Rt1, Rc1, Rs1, So1, Ot1, Cn1, La1, hY1, ⟨s0_1, s1_1, s2_1, s3_1, s4_1, s5_1, s6_1, s7_1⟩, hg1_, hk1_, hz1_, hd1_, he1_, hA1_, hb1_⟩ := id hS
  replace hd1_ := fun _ : Unit => hd1_
  replace he1_ := fun _ : Unit => he1_
  unfold qYo at hY1
  have hL := (hV.L hB).1
  have hLk := hL.2
  have hLn := (hV.L hB).2
  have hcn : a.1 = k.1 := hV.n
  have hp9 : 1 ≤ a.1 ∧ a.1 ≤ a.2.1 := hV.p
  have hv1 : k.2.2.1 cc ≤ 6 := (hV.k cc hcc).1
  have stX := xForce_stp (Bd := Bd) hRl (d + 1) sl dp (o, a, k) cc hV hfa hcc hdc
  rw [hX] at stX
  have hmX := qStp.P hV stX
  clear stX
  refine lv_aload_n hx hb dX8_force_0 rfl (lv_at hl 0 rfl) ?_
  refine q_get C hP hY1 rfl inX8 14 (by decide) g1181 rfl dX8_force_1 ?_
  refine lv_iload_n hx hb dX8_force_4 rfl (lv_at hl 1 rfl) ?_
  refine q_ialdN C hP s2_1 (by omega) (by omega) dX8_force_5 ?_
  rw [(hk1_ cc (by omega)).1]
  refine lv_if_ne (tgt := 16) hx hb dX8_force_6 (by decide) (fun c6 => ?_) (fun c6 => ?_)
  · replace c6 : ¬ (k.2.2.1 cc) = 0 := fun zq => c6 ((nI_eq (a := (k.2.2.1 cc)) (b := 0) (by omega) (by omega)).mpr zq)
    refine lv_aload_n hx hb dX8_force_16 rfl (lv_at hl 0 rfl) ?_
    refine q_get C hP hY1 rfl inX8 6 (by decide) g1173 rfl dX8_force_17 ?_
    refine lv_sipush (v := 20000) hx hb dX8_force_20 (by decide) ?_
    refine lv_icmp_lt (tgt := 33) hx hb dX8_force_23 (by decide) (fun c23 => ?_) (fun c23 => ?_)
    · refine lv_aload_n hx hb dX8_force_33 rfl (lv_at hl 0 rfl) ?_
      refine lv_dup hx hb dX8_force_34 rfl ?_
      refine q_get C hP hY1 rfl inX8 6 (by decide) g1173 rfl dX8_force_35 ?_
      refine lv_iconst (v := nI 1) hx hb dX8_force_38 (by decide) ?_
      refine lv_iadd hx hb dX8_force_39 ?_
      have hY0 := hY1
      refine q_put C hP hS9 hY1 rfl inX8 tyX8 tyX8_ok nmX8 6 (by decide) g1173 rfl rfl rfl (Nat.le_of_ble_eq_true rfl) dX8_force_40 (fun H locs hP hS9 => ?_)
      replace hP : qP D N0 (qs h y (.inr (8, [.ref o.1, .ref o.2.1, .ref o.2.2.1, .int o.2.2.2.2.2.2.1, .int o.2.2.2.2.2.2.2.1, .int o.2.2.2.2.2.2.2.2.1, .int ((o.2.2.2.2.2.2.2.2.2.1) + (nI 1)), .ref o.2.2.2.1, .ref o.2.2.2.2.1, .int o.2.2.2.2.2.2.2.2.2.2.1, .int o.2.2.2.2.2.2.2.2.2.2.2.1, .ref fi1, .ref re1, .int (nI a.1), .ref rc1, .ref rs1, .ref so1, .ref ot1, .ref cn1, .ref la1, .int (nI k.1), .ref o.2.2.2.2.2.1, .int o.2.2.2.2.2.2.2.2.2.2.2.2]))) H := hP
      obtain ⟨hv1, ehv1⟩ : ∃ z : qH, z = qs h y (.inr (8, [.ref o.1, .ref o.2.1, .ref o.2.2.1, .int o.2.2.2.2.2.2.1, .int o.2.2.2.2.2.2.2.1, .int o.2.2.2.2.2.2.2.2.1, .int ((o.2.2.2.2.2.2.2.2.2.1) + (nI 1)), .ref o.2.2.2.1, .ref o.2.2.2.2.1, .int o.2.2.2.2.2.2.2.2.2.2.1, .int o.2.2.2.2.2.2.2.2.2.2.2.1, .ref fi1, .ref re1, .int (nI a.1), .ref rc1, .ref rs1, .ref so1, .ref ot1, .ref cn1, .ref la1, .int (nI k.1), .ref o.2.2.2.2.2.1, .int o.2.2.2.2.2.2.2.2.2.2.2.2])) := ⟨_, rfl⟩
      rw [← ehv1] at hP
      have khv1 : ∀ b o, b ≠ y → h b = some o → hv1 b = some o := by rw [ehv1]; exact fun b o nb hb => (qs_ne nb).trans hb
      replace s0_1 := khv1 _ _ (fun q => by subst q; have := s0_1.symm.trans hY1; first | cases this | simp at this) s0_1
      replace s1_1 := khv1 _ _ (fun q => by subst q; have := s1_1.symm.trans hY1; first | cases this | simp at this) s1_1
      replace s2_1 := khv1 _ _ (fun q => by subst q; have := s2_1.symm.trans hY1; first | cases this | simp at this) s2_1
      replace s3_1 := khv1 _ _ (fun q => by subst q; have := s3_1.symm.trans hY1; first | cases this | simp at this) s3_1
      replace s4_1 := khv1 _ _ (fun q => by subst q; have := s4_1.symm.trans hY1; first | cases this | simp at this) s4_1
      replace s5_1 := khv1 _ _ (fun q => by subst q; have := s5_1.symm.trans hY1; first | cases this | simp at this) s5_1
      replace s6_1 := khv1 _ _ (fun q => by subst q; have := s6_1.symm.trans hY1; first | cases this | simp at this) s6_1
      replace s7_1 := khv1 _ _ (fun q => by subst q; have := s7_1.symm.trans hY1; first | cases this | simp at this) s7_1
      replace hY1 : hv1 y = some (.inr (8, [.ref o.1, .ref o.2.1, .ref o.2.2.1, .int o.2.2.2.2.2.2.1, .int o.2.2.2.2.2.2.2.1, .int o.2.2.2.2.2.2.2.2.1, .int ((o.2.2.2.2.2.2.2.2.2.1) + (nI 1)), .ref o.2.2.2.1, .ref o.2.2.2.2.1, .int o.2.2.2.2.2.2.2.2.2.2.1, .int o.2.2.2.2.2.2.2.2.2.2.2.1, .ref fi1, .ref re1, .int (nI a.1), .ref rc1, .ref rs1, .ref so1, .ref ot1, .ref cn1, .ref la1, .int (nI k.1), .ref o.2.2.2.2.2.1, .int o.2.2.2.2.2.2.2.2.2.2.2.2])) := by rw [ehv1]; exact qs_self
      clear ehv1
      replace hS : qSy cy hv1 y A (oMv o (o.2.2.2.2.2.2.2.2.2.1 + nI 1)) a (k) := ⟨fi1, re1, rc1, rs1, so1, ot1, cn1, la1, F1, Rt1, Rc1, Rs1, So1, Ot1, Cn1, La1, hY1, ⟨s0_1, s1_1, s2_1, s3_1, s4_1, s5_1, s6_1, s7_1⟩, hg1_, hk1_, hz1_, (hd1_ ()), (he1_ ()), hA1_, hb1_⟩
      have hFq1 : qFy h hv1 y A A := ⟨fun b o hb n1 n2 => khv1 b o n1 hb, fun _ z => z, fun _ z => Or.inl z⟩
      have hFt1 := hFq1
      replace hR := hR.keep hFq1 hY0
      have hV1 : qWv Bd (sl + 1) Rn dp ((oMv o (o.2.2.2.2.2.2.2.2.2.1 + nI 1)), a, k) := hV.move c23
      refine lv_aload_n hx hb dX8_force_43 rfl (lv_at hl 0 rfl) ?_
      refine lv_iload_n hx hb dX8_force_44 rfl (lv_at hl 1 rfl) ?_
      have hG := xForce_stp (Bd := Bd) hRl d
      obtain ⟨s2, o2, a2, k2, er9⟩ : ∃ z1 z2 z3 z4, xWork R (xForce R d) ((oMv o (o.2.2.2.2.2.2.2.2.2.1 + nI 1)), a, k) cc = (z1, z2, z3, z4) := ⟨_, _, _, _, rfl⟩
      have hcall := w_worked l D cy N0 hv1 y A (oMv o (o.2.2.2.2.2.2.2.2.2.1 + nI 1)) a k R ad Rn Bd sl d dp (xForce R d) cc _ hS nA hR hV1 hfa hB hF hG hRl hcc (by omega) c6 er9
      dsimp only at hcall
      have st9 := xWork_stp hG hRl hV1 hfa hcc (by omega) c6
      rw [er9] at st9
      obtain ⟨dp2, d1, w2, d3, d4, d5, ⟨x6, y6, z6, e6⟩, d7⟩ := st9
      dsimp only at d1 d3 d4 d5 e6 d7
      have hX2 : X = if ¬ oFq o2 = 0 then (0, (o2, a2, k2)) else (s2, o2, a2, xSetC k2 cc s2) := by rw [← hX, xForce, if_neg c6, if_neg (fun z => z c23)]; dsimp only; rw [er9]
      have hpm := qP_mono (a := a) (b := a2) (by omega) d4
      have hpX : qP1 a2 = qP1 X.2.2.1 ∧ qP2 a2 = qP2 X.2.2.1 := by rw [hX2]; split <;> exact ⟨rfl, rfl⟩
      have hL2 := (w2.L hB).1
      have hn2 : a2.1 = k2.1 := w2.n
      refine q_callV (rest := []) C (hcall) kX8_worked g1335 g1337 rfl gp51 g4 hP hS9 hY1 (by first | decide | omega) hl.1 rfl (by decide) (by first | decide | omega) dX8_force_45 (fun q ce E h' H1 locs1 hE => hE.elim) (fun v hh1 H locs hq hP hS9 => ?_)
      obtain ⟨rfl, Aq2, hSq2, hFq2, nAq2⟩ := hq
      replace hS := hSq2
      have hFt2 := hFt1.tr hFq2 nAq2
      obtain ⟨fi2, re2, rc2, rs2, so2, ot2, cn2, la2, F2, Rt2, Rc2, Rs2, So2, Ot2, Cn2, La2, hY2, ⟨s0_2, s1_2, s2_2, s3_2, s4_2, s5_2, s6_2, s7_2⟩, hg2_, hk2_, hz2_, hd2_, he2_, hA2_, hb2_⟩ := id hS
      replace hd2_ := fun _ : Unit => hd2_
      replace he2_ := fun _ : Unit => he2_
      unfold qYo at hY2
      refine lv_istore_n (lv' := [(2, .int (nI s2)), (0, .ref y), (1, .int (nI cc))]) hx hb dX8_force_48 rfl hl (by decide) rfl (fun ls hl => ?_)
      refine lv_aload_n hx hb dX8_force_49 rfl (lv_at hl 1 rfl) ?_
      refine q_get C hP hY2 rfl inX8 10 (by decide) g1177 rfl dX8_force_50 ?_
      refine lv_if_eq (tgt := 58) hx hb dX8_force_53 (by decide) (fun c53 => ?_) (fun c53 => ?_)
      · refine lv_aload_n hx hb dX8_force_58 rfl (lv_at hl 1 rfl) ?_
        refine q_get C hP hY2 rfl inX8 14 (by decide) g1181 rfl dX8_force_59 ?_
        refine lv_iload_n hx hb dX8_force_62 rfl (lv_at hl 2 rfl) ?_
        refine lv_iconst (v := nI 0) hx hb dX8_force_63 (by decide) ?_
        refine q_iastN C hP hS9 s2_2 (by omega) (by omega) dX8_force_64 (fun H locs hP hS9 => ?_)
        obtain ⟨hv2, ehv2⟩ : ∃ z : qH, z = qs hh1 rc2 (.inl (cy 0, k2.2.1, .inl (upd Rc2 cc (nI 0)))) := ⟨_, rfl⟩
        rw [← ehv2] at hP
        have khv2 : ∀ b o, b ≠ rc2 → hh1 b = some o → hv2 b = some o := by rw [ehv2]; exact fun b o nb hb => (qs_ne nb).trans hb
        replace hY2 := khv2 _ _ (fun q => by subst q; have := hY2.symm.trans s2_2; first | cases this | simp at this) hY2
        replace s0_2 := khv2 _ _ (fun q => by subst q; have := s0_2.symm.trans s2_2; first | cases this | simp at this) s0_2
        replace s1_2 := khv2 _ _ (he2_ ()).1 s1_2
        replace s3_2 := khv2 _ _ (Ne.symm (hd2_ ()).1) s3_2
        replace s4_2 := khv2 _ _ (Ne.symm (hd2_ ()).2.1) s4_2
        replace s5_2 := khv2 _ _ (Ne.symm (hd2_ ()).2.2.1) s5_2
        replace s6_2 := khv2 _ _ (fun q => by subst q; have := s6_2.symm.trans s2_2; first | cases this | simp at this) s6_2
        replace s7_2 := khv2 _ _ (fun q => by subst q; have := s7_2.symm.trans s2_2; first | cases this | simp at this) s7_2
        replace s2_2 : hv2 rc2 = some (.inl (cy 0, k2.2.1, .inl (upd Rc2 cc (nI 0)))) := by rw [ehv2]; exact qs_self
        clear ehv2
        have hFq3 : qFy hh1 hv2 y Aq2 Aq2 := ⟨fun b o hb n1 n2 => khv2 b o (fun q => n2 (q ▸ hA2_.2.2.1)) hb, fun _ z => z, fun _ z => Or.inl z⟩
        have hFt3 := hFt2.tr hFq3 nAq2
        refine lv_aload_n hx hb dX8_force_65 rfl (lv_at hl 1 rfl) ?_
        refine q_get C hP hY2 rfl inX8 15 (by decide) g1182 rfl dX8_force_66 ?_
        refine lv_iload_n hx hb dX8_force_69 rfl (lv_at hl 2 rfl) ?_
        refine lv_iload_n hx hb dX8_force_70 rfl (lv_at hl 0 rfl) ?_
        refine q_iastN C hP hS9 s3_2 (by omega) (by omega) dX8_force_71 (fun H locs hP hS9 => ?_)
        obtain ⟨hv3, ehv3⟩ : ∃ z : qH, z = qs hv2 rs2 (.inl (cy 0, k2.2.1, .inl (upd Rs2 cc (nI s2)))) := ⟨_, rfl⟩
        rw [← ehv3] at hP
        have khv3 : ∀ b o, b ≠ rs2 → hv2 b = some o → hv3 b = some o := by rw [ehv3]; exact fun b o nb hb => (qs_ne nb).trans hb
        replace hY2 := khv3 _ _ (fun q => by subst q; have := hY2.symm.trans s3_2; first | cases this | simp at this) hY2
        replace s0_2 := khv3 _ _ (fun q => by subst q; have := s0_2.symm.trans s3_2; first | cases this | simp at this) s0_2
        replace s1_2 := khv3 _ _ (he2_ ()).2.1 s1_2
        replace s2_2 := khv3 _ _ (hd2_ ()).1 s2_2
        replace s4_2 := khv3 _ _ (Ne.symm (hd2_ ()).2.2.2.1) s4_2
        replace s5_2 := khv3 _ _ (Ne.symm (hd2_ ()).2.2.2.2.1) s5_2
        replace s6_2 := khv3 _ _ (fun q => by subst q; have := s6_2.symm.trans s3_2; first | cases this | simp at this) s6_2
        replace s7_2 := khv3 _ _ (fun q => by subst q; have := s7_2.symm.trans s3_2; first | cases this | simp at this) s7_2
        replace s3_2 : hv3 rs2 = some (.inl (cy 0, k2.2.1, .inl (upd Rs2 cc (nI s2)))) := by rw [ehv3]; exact qs_self
        clear ehv3
        replace hS : qSy cy hv3 y Aq2 (o2) a2 (xSetC k2 cc s2) := ⟨fi2, re2, rc2, rs2, so2, ot2, cn2, la2, F2, Rt2, upd Rc2 cc (nI 0), upd Rs2 cc (nI s2), So2, Ot2, Cn2, La2, hY2, ⟨s0_2, s1_2, s2_2, s3_2, s4_2, s5_2, s6_2, s7_2⟩, hg2_, (fun j hj => by obtain ⟨z1, z2, z3, z4, z5, z6⟩ := hk2_ j hj; exact ⟨if z : j = cc then (by rw [z]; show upd Rc2 cc (nI 0) cc = nI (qU k2.2.2.1 cc 0 cc); rw [qU_at]; exact if_pos rfl) else (by show upd Rc2 cc (nI 0) j = nI (qU k2.2.2.1 cc 0 j); rw [qU_ne z]; exact (if_neg z).trans z1), if z : j = cc then (by rw [z]; show upd Rs2 cc (nI s2) cc = nI (qU k2.2.2.2.1 cc s2 cc); rw [qU_at]; exact if_pos rfl) else (by show upd Rs2 cc (nI s2) j = nI (qU k2.2.2.2.1 cc s2 j); rw [qU_ne z]; exact (if_neg z).trans z2), z3, z4, z5, z6⟩), (fun j h1 h2 => (if_neg (by have : k2.1 ≤ j := h1; omega)).trans (hz2_ j h1 h2)), (hd2_ ()), (he2_ ()), hA2_, hb2_⟩
        have hFq4 : qFy hv2 hv3 y Aq2 Aq2 := ⟨fun b o hb n1 n2 => khv3 b o (fun q => n2 (q ▸ hA2_.2.2.2.1)) hb, fun _ z => z, fun _ z => Or.inl z⟩
        have hFt4 := hFt3.tr hFq4 nAq2
        refine lv_iload_n hx hb dX8_force_72 rfl (lv_at hl 0 rfl) ?_
        have eX : X = (s2, o2, a2, xSetC k2 cc s2) := by rw [hX2, if_neg (fun z => z c53)]
        exact q_iret C hP hS9 ⟨by rw [eX], Aq2, by rw [eX]; exact hS, hFt4, nAq2⟩ (by omega) dX8_force_73
      · refine lv_iconst (v := nI 0) hx hb dX8_force_56 (by decide) ?_
        have eX : X = (0, o2, a2, k2) := by rw [hX2, if_pos c53]
        exact q_iret C hP hS9 ⟨by rw [eX], Aq2, by rw [eX]; exact hS, hFt2, nAq2⟩ (by omega) dX8_force_57
    · refine lv_aload_n hx hb dX8_force_26 rfl (lv_at hl 0 rfl) ?_
      refine lv_iconst (v := nI 2) hx hb dX8_force_27 (by decide) ?_
      have hY0 := hY1
      refine q_put C hP hS9 hY1 rfl inX8 tyX8 tyX8_ok nmX8 10 (by decide) g1177 rfl rfl rfl (Nat.le_of_ble_eq_true rfl) dX8_force_28 (fun H locs hP hS9 => ?_)
      replace hP : qP D N0 (qs h y (.inr (8, [.ref o.1, .ref o.2.1, .ref o.2.2.1, .int o.2.2.2.2.2.2.1, .int o.2.2.2.2.2.2.2.1, .int o.2.2.2.2.2.2.2.2.1, .int o.2.2.2.2.2.2.2.2.2.1, .ref o.2.2.2.1, .ref o.2.2.2.2.1, .int o.2.2.2.2.2.2.2.2.2.2.1, .int (nI 2), .ref fi1, .ref re1, .int (nI a.1), .ref rc1, .ref rs1, .ref so1, .ref ot1, .ref cn1, .ref la1, .int (nI k.1), .ref o.2.2.2.2.2.1, .int o.2.2.2.2.2.2.2.2.2.2.2.2]))) H := hP
      obtain ⟨hv4, ehv4⟩ : ∃ z : qH, z = qs h y (.inr (8, [.ref o.1, .ref o.2.1, .ref o.2.2.1, .int o.2.2.2.2.2.2.1, .int o.2.2.2.2.2.2.2.1, .int o.2.2.2.2.2.2.2.2.1, .int o.2.2.2.2.2.2.2.2.2.1, .ref o.2.2.2.1, .ref o.2.2.2.2.1, .int o.2.2.2.2.2.2.2.2.2.2.1, .int (nI 2), .ref fi1, .ref re1, .int (nI a.1), .ref rc1, .ref rs1, .ref so1, .ref ot1, .ref cn1, .ref la1, .int (nI k.1), .ref o.2.2.2.2.2.1, .int o.2.2.2.2.2.2.2.2.2.2.2.2])) := ⟨_, rfl⟩
      rw [← ehv4] at hP
      have khv4 : ∀ b o, b ≠ y → h b = some o → hv4 b = some o := by rw [ehv4]; exact fun b o nb hb => (qs_ne nb).trans hb
      replace s0_1 := khv4 _ _ (fun q => by subst q; have := s0_1.symm.trans hY1; first | cases this | simp at this) s0_1
      replace s1_1 := khv4 _ _ (fun q => by subst q; have := s1_1.symm.trans hY1; first | cases this | simp at this) s1_1
      replace s2_1 := khv4 _ _ (fun q => by subst q; have := s2_1.symm.trans hY1; first | cases this | simp at this) s2_1
      replace s3_1 := khv4 _ _ (fun q => by subst q; have := s3_1.symm.trans hY1; first | cases this | simp at this) s3_1
      replace s4_1 := khv4 _ _ (fun q => by subst q; have := s4_1.symm.trans hY1; first | cases this | simp at this) s4_1
      replace s5_1 := khv4 _ _ (fun q => by subst q; have := s5_1.symm.trans hY1; first | cases this | simp at this) s5_1
      replace s6_1 := khv4 _ _ (fun q => by subst q; have := s6_1.symm.trans hY1; first | cases this | simp at this) s6_1
      replace s7_1 := khv4 _ _ (fun q => by subst q; have := s7_1.symm.trans hY1; first | cases this | simp at this) s7_1
      replace hY1 : hv4 y = some (.inr (8, [.ref o.1, .ref o.2.1, .ref o.2.2.1, .int o.2.2.2.2.2.2.1, .int o.2.2.2.2.2.2.2.1, .int o.2.2.2.2.2.2.2.2.1, .int o.2.2.2.2.2.2.2.2.2.1, .ref o.2.2.2.1, .ref o.2.2.2.2.1, .int o.2.2.2.2.2.2.2.2.2.2.1, .int (nI 2), .ref fi1, .ref re1, .int (nI a.1), .ref rc1, .ref rs1, .ref so1, .ref ot1, .ref cn1, .ref la1, .int (nI k.1), .ref o.2.2.2.2.2.1, .int o.2.2.2.2.2.2.2.2.2.2.2.2])) := by rw [ehv4]; exact qs_self
      clear ehv4
      replace hS : qSy cy hv4 y A (oFa o 2) a (k) := ⟨fi1, re1, rc1, rs1, so1, ot1, cn1, la1, F1, Rt1, Rc1, Rs1, So1, Ot1, Cn1, La1, hY1, ⟨s0_1, s1_1, s2_1, s3_1, s4_1, s5_1, s6_1, s7_1⟩, hg1_, hk1_, hz1_, (hd1_ ()), (he1_ ()), hA1_, hb1_⟩
      have hFq5 : qFy h hv4 y A A := ⟨fun b o hb n1 n2 => khv4 b o n1 hb, fun _ z => z, fun _ z => Or.inl z⟩
      have hFt5 := hFq5
      refine lv_iconst (v := nI 0) hx hb dX8_force_31 (by decide) ?_
      have eX : X = (0, oFa o 2, a, k) := by rw [← hX, xForce, if_neg c6, if_pos c23]
      exact q_iret C hP hS9 ⟨by rw [eX], A, by rw [eX]; exact hS, hFt5, nA⟩ (by omega) dX8_force_32
  · replace c6 : (k.2.2.1 cc) = 0 := (nI_eq (a := (k.2.2.1 cc)) (b := 0) (by omega) (by omega)).mp c6
    refine lv_aload_n hx hb dX8_force_9 rfl (lv_at hl 0 rfl) ?_
    refine q_get C hP hY1 rfl inX8 15 (by decide) g1182 rfl dX8_force_10 ?_
    refine lv_iload_n hx hb dX8_force_13 rfl (lv_at hl 1 rfl) ?_
    refine q_ialdN C hP s3_1 (by omega) (by omega) dX8_force_14 ?_
    rw [(hk1_ cc (by omega)).2.1]
    have eX : X = (k.2.2.2.1 cc, o, a, k) := by rw [← hX, xForce, if_pos c6]
    exact q_iret C hP hS9 ⟨by rw [eX], A, by rw [eX]; exact hS, qFy.rf, nA⟩ (by omega) dX8_force_15
theorem w_forceAll (l : Launch) (D : va_G) (cy : Nat → ClassId) (N0 y Bd Rn : Nat) (R : Nat → List Int64) (ad : Nat → Nat) (hB : Bd ≤ 4000) (hRl : ∀ q, q < Rn → (R q).length ≤ 1000) : ∀ d, qFS l D cy N0 y Bd Rn R ad (xForce R d) d
  | 0 => fun h A o a k sl dp c _ _ _ _ _ _ z => absurd z (Nat.not_lt_zero _)
  | d + 1 => fun h A o a k sl dp c h1 h2 h3 h4 h5 h6 h7 => w_force l D cy N0 h y A o a k R ad Rn Bd sl d dp c _ h1 h2 h3 h4 h5 hB (w_forceAll l D cy N0 y Bd Rn R ad hB hRl d) hRl h6 h7 rfl
