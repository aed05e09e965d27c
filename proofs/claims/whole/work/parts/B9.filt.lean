theorem dX8_filtered_0 : decode cX8_filtered 0 = .ok (.iload_n 1, 1) := by decide +kernel
theorem dX8_filtered_1 : decode cX8_filtered 1 = .ok (.istore 5, 2) := by decide +kernel
theorem dX8_filtered_3 : decode cX8_filtered 3 = .ok (.iconst 0, 1) := by decide +kernel
theorem dX8_filtered_4 : decode cX8_filtered 4 = .ok (.istore 6, 2) := by decide +kernel
theorem dX8_filtered_6 : decode cX8_filtered 6 = .ok (.iload 5, 2) := by decide +kernel
theorem dX8_filtered_8 : decode cX8_filtered 8 = .ok (.ifCond .le 107, 3) := by decide +kernel
theorem dX8_filtered_11 : decode cX8_filtered 11 = .ok (.iinc 6 1, 3) := by decide +kernel
theorem dX8_filtered_14 : decode cX8_filtered 14 = .ok (.aload_n 0, 1) := by decide +kernel
theorem dX8_filtered_15 : decode cX8_filtered 15 = .ok (.dup, 1) := by decide +kernel
theorem dX8_filtered_16 : decode cX8_filtered 16 = .ok (.getfield 195, 3) := by decide +kernel
theorem dX8_filtered_19 : decode cX8_filtered 19 = .ok (.iconst 1, 1) := by decide +kernel
theorem dX8_filtered_20 : decode cX8_filtered 20 = .ok (.iadd, 1) := by decide +kernel
theorem dX8_filtered_21 : decode cX8_filtered 21 = .ok (.putfield 195, 3) := by decide +kernel
theorem dX8_filtered_24 : decode cX8_filtered 24 = .ok (.aload_n 0, 1) := by decide +kernel
theorem dX8_filtered_25 : decode cX8_filtered 25 = .ok (.iload_n 2, 1) := by decide +kernel
theorem dX8_filtered_26 : decode cX8_filtered 26 = .ok (.lload_n 3, 1) := by decide +kernel
theorem dX8_filtered_27 : decode cX8_filtered 27 = .ok (.aload_n 0, 1) := by decide +kernel
theorem dX8_filtered_28 : decode cX8_filtered 28 = .ok (.getfield 32, 3) := by decide +kernel
theorem dX8_filtered_31 : decode cX8_filtered 31 = .ok (.iload 5, 2) := by decide +kernel
theorem dX8_filtered_33 : decode cX8_filtered 33 = .ok (.laload, 1) := by decide +kernel
theorem dX8_filtered_34 : decode cX8_filtered 34 = .ok (.invokevirtual 215, 3) := by decide +kernel
theorem dX8_filtered_37 : decode cX8_filtered 37 = .ok (.istore 7, 2) := by decide +kernel
theorem dX8_filtered_39 : decode cX8_filtered 39 = .ok (.aload_n 0, 1) := by decide +kernel
theorem dX8_filtered_40 : decode cX8_filtered 40 = .ok (.getfield 155, 3) := by decide +kernel
theorem dX8_filtered_43 : decode cX8_filtered 43 = .ok (.ifCond .eq 5, 3) := by decide +kernel
theorem dX8_filtered_46 : decode cX8_filtered 46 = .ok (.iconst 0, 1) := by decide +kernel
theorem dX8_filtered_47 : decode cX8_filtered 47 = .ok (.ireturn, 1) := by decide +kernel
theorem dX8_filtered_48 : decode cX8_filtered 48 = .ok (.iload 7, 2) := by decide +kernel
theorem dX8_filtered_50 : decode cX8_filtered 50 = .ok (.ifCond .eq 30, 3) := by decide +kernel
theorem dX8_filtered_53 : decode cX8_filtered 53 = .ok (.aload_n 0, 1) := by decide +kernel
theorem dX8_filtered_54 : decode cX8_filtered 54 = .ok (.aload_n 0, 1) := by decide +kernel
theorem dX8_filtered_55 : decode cX8_filtered 55 = .ok (.getfield 32, 3) := by decide +kernel
theorem dX8_filtered_58 : decode cX8_filtered 58 = .ok (.iload 5, 2) := by decide +kernel
theorem dX8_filtered_60 : decode cX8_filtered 60 = .ok (.laload, 1) := by decide +kernel
theorem dX8_filtered_61 : decode cX8_filtered 61 = .ok (.aload_n 0, 1) := by decide +kernel
theorem dX8_filtered_62 : decode cX8_filtered 62 = .ok (.iconst 4, 1) := by decide +kernel
theorem dX8_filtered_63 : decode cX8_filtered 63 = .ok (.aload_n 0, 1) := by decide +kernel
theorem dX8_filtered_64 : decode cX8_filtered 64 = .ok (.getfield 36, 3) := by decide +kernel
theorem dX8_filtered_67 : decode cX8_filtered 67 = .ok (.iload 5, 2) := by decide +kernel
theorem dX8_filtered_69 : decode cX8_filtered 69 = .ok (.iaload, 1) := by decide +kernel
theorem dX8_filtered_70 : decode cX8_filtered 70 = .ok (.iload_n 2, 1) := by decide +kernel
theorem dX8_filtered_71 : decode cX8_filtered 71 = .ok (.lload_n 3, 1) := by decide +kernel
theorem dX8_filtered_72 : decode cX8_filtered 72 = .ok (.lconst 0, 1) := by decide +kernel
theorem dX8_filtered_73 : decode cX8_filtered 73 = .ok (.invokevirtual 188, 3) := by decide +kernel
theorem dX8_filtered_76 : decode cX8_filtered 76 = .ok (.invokevirtual 143, 3) := by decide +kernel
theorem dX8_filtered_79 : decode cX8_filtered 79 = .ok (.ireturn, 1) := by decide +kernel
theorem dX8_filtered_80 : decode cX8_filtered 80 = .ok (.iload 6, 2) := by decide +kernel
theorem dX8_filtered_82 : decode cX8_filtered 82 = .ok (.sipush 1000, 3) := by decide +kernel
theorem dX8_filtered_85 : decode cX8_filtered 85 = .ok (.if_icmp .ne 5, 3) := by decide +kernel
theorem dX8_filtered_88 : decode cX8_filtered 88 = .ok (.iconst 0, 1) := by decide +kernel
theorem dX8_filtered_89 : decode cX8_filtered 89 = .ok (.ireturn, 1) := by decide +kernel
theorem dX8_filtered_90 : decode cX8_filtered 90 = .ok (.aload_n 0, 1) := by decide +kernel
theorem dX8_filtered_91 : decode cX8_filtered 91 = .ok (.aload_n 0, 1) := by decide +kernel
theorem dX8_filtered_92 : decode cX8_filtered 92 = .ok (.getfield 36, 3) := by decide +kernel
theorem dX8_filtered_95 : decode cX8_filtered 95 = .ok (.iload 5, 2) := by decide +kernel
theorem dX8_filtered_97 : decode cX8_filtered 97 = .ok (.iaload, 1) := by decide +kernel
theorem dX8_filtered_98 : decode cX8_filtered 98 = .ok (.invokevirtual 158, 3) := by decide +kernel
theorem dX8_filtered_101 : decode cX8_filtered 101 = .ok (.istore 5, 2) := by decide +kernel
theorem dX8_filtered_103 : decode cX8_filtered 103 = .ok (.aload_n 0, 1) := by decide +kernel
theorem dX8_filtered_104 : decode cX8_filtered 104 = .ok (.getfield 155, 3) := by decide +kernel
theorem dX8_filtered_107 : decode cX8_filtered 107 = .ok (.ifCond .eq 5, 3) := by decide +kernel
theorem dX8_filtered_110 : decode cX8_filtered 110 = .ok (.iconst 0, 1) := by decide +kernel
theorem dX8_filtered_111 : decode cX8_filtered 111 = .ok (.ireturn, 1) := by decide +kernel
theorem dX8_filtered_112 : decode cX8_filtered 112 = .ok (.goto (-106), 3) := by decide +kernel
theorem dX8_filtered_115 : decode cX8_filtered 115 = .ok (.iconst 0, 1) := by decide +kernel
theorem dX8_filtered_116 : decode cX8_filtered 116 = .ok (.ireturn, 1) := by decide +kernel
set_option maxRecDepth 100000 in
set_option maxHeartbeats 4000000 in
theorem w_filtered (l : Launch) (D : va_G) (cy : Nat → ClassId) (N0 : Nat) (h : qH) (y : Nat) (A : Nat → Prop) (o : qYf) (a : qWd) (k : qKd) (R : Nat → List Int64) (ad : Nat → Nat) (Rn : Nat) (Bd sl d : Nat) (dp : Nat → Nat) (F : qWo → Nat → Nat × qWo) (ss wq : Nat) (c0 : Int64) (X : Nat × qWo) (hW : qSy cy h y A o a k) (nA : ¬ A y) (hR : qRz cy h A o.2.2.2.2.2.1 Rn R ad) (hV : qWv Bd (sl + 1) Rn dp (o, a, k)) (hfa : oFq o = 0) (hB : Bd ≤ 4000) (hF : qFS l D cy N0 y Bd Rn R ad F d) (hG : qFg Bd Rn F d) (hwq : wq ≤ 4) (hss : ss < a.1 ∧ dp ss < d) (hX : xFilt F wq c0 1000 (o, a, k) ss = X) : qC l D cy N0 yX8_filtered cX8_filtered 8 (some .int) (4 * d + 6) (200 * d + 260) (qP1 X.2.2.1 - qP1 a) (qP2 X.2.2.1 - qP2 a) [.ref y, .int (nI ss), .int (nI wq), .long c0] h (fun v h' => v = some (.int (nI X.1)) ∧ ∃ A', qSy cy h' y A' X.2.1 X.2.2.1 X.2.2.2 ∧ qFy h h' y A A' ∧ ¬ A' y) (fun E h' => False) := by
  refine q_ofW (by decide) (by exact Nat.le_of_ble_eq_true rfl) ?_
  intro p e s m below meth c ls C hP hl
  have hx := C.1
  have hb := C.2.1
  have hS9 : va_S (qA N0) s.heap s.heap [] := va_S.rf
  have hl : lv_has ls 8 [(0, .ref y), (1, .int (nI ss)), (2, .int (nI wq)), (3, .long c0)] := hl
  have hle : qle h h := qle_rf
  have hS := hW
  obtain ⟨fi1, re1, rc1, rs1, so1, ot1, cn1, la1, F1, Rt1, Rc1, Rs1, So1, Ot1, Cn1, La1, hY1, ⟨s0_1, s1_1, s2_1, s3_1, s4_1, s5_1, s6_1, s7_1⟩, hg1_, hk1_, hz1_, hd1_, he1_, hA1_, hb1_⟩ := id hS
  replace hd1_ := fun _ : Unit => hd1_
  replace he1_ := fun _ : Unit => he1_
  unfold qYo at hY1
  obtain ⟨P0, eP0⟩ : ∃ z, z = qP1 a := ⟨_, rfl⟩
  obtain ⟨Q0, eQ0⟩ : ∃ z, z = qP2 a := ⟨_, rfl⟩
  refine lv_iload_n hx hb dX8_filtered_0 rfl (lv_at hl 1 rfl) ?_
  refine lv_istore (lv' := [(5, .int (nI ss)), (0, .ref y), (1, .int (nI ss)), (2, .int (nI wq)), (3, .long c0)]) hx hb dX8_filtered_1 hl (by decide) rfl (fun ls hl => ?_)
  refine lv_iconst (v := nI 0) hx hb dX8_filtered_3 (by decide) ?_
  refine lv_istore (lv' := [(6, .int (nI 0)), (5, .int (nI ss)), (0, .ref y), (1, .int (nI ss)), (2, .int (nI wq)), (3, .long c0)]) hx hb dX8_filtered_4 hl (by decide) rfl (fun ls hl => ?_)
  refine (?_ : ∀ (u t : Nat) (H : Heap) (locs : List Loc) (ls : Array Slot) (hh : qH) (A9 : Nat → Prop) (o : qYf) (a9 : qWd) (k9 : qKd) (dp9 : Nat → Nat) (s9 c1 c2 : Nat), t < u → lv_has ls 8 [(6, .int (nI (999 - t))), (5, .int (nI s9)), (3, .long c0), (2, .int (nI wq)), (0, .ref y)] → t ≤ 999 → qP D N0 hh H → va_S (qA N0) s.heap H locs → qSy cy hh y A9 o a9 k9 → ¬ A9 y → qRz cy hh A9 o.2.2.2.2.2.1 Rn R ad → qWv Bd (sl + 1) Rn dp9 (o, a9, k9) → oFq o = 0 → s9 < a9.1 ∧ dp9 s9 < d → xFilt F wq c0 (t + 1) (o, a9, k9) s9 = X → c1 + P0 = qP1 a9 ∧ c2 + Q0 = qP2 a9 → qFy h hh y A A9 → W p l e _ s m _ below meth c H locs c1 c2 _ (F0 m 6 ls [])) 1000 999 _ _ ls h A o a k dp ss 0 0 (by omega) (lv_sub hl [0, 1, 5, 4, 2] rfl) (by omega) hP hS9 hS nA hR hV hfa hss hX ⟨by omega, by omega⟩ qFy.rf
  clear hl hP hS9 hS nA hR hV hfa hss hX hW
  intro u
  induction u with
  | zero => intro t _ _ _ _ _ _ _ _ _ _ _ _ h; exact absurd h (Nat.not_lt_zero _)
  | succ u ihu =>
    intro t H locs ls hh A9 o a9 k9 dp9 s9 c1 c2 htu hl ht9 hP hS9 hS nA9 hRz hV9 hfa hss hX hcc hfr9
    have hL := (hV9.L hB).1
    have hLk := hL.2
    have hLn := (hV9.L hB).2
    have stX := xFilt_stp (dc := d) (c := c0) hG hwq (t + 1) s9 dp9 (o, a9, k9) hV9 hfa ⟨hss.1, hss.2, hss.2⟩
    rw [hX] at stX
    have hmX := qStp.P hV9 stX
    clear stX
    obtain ⟨fi2, re2, rc2, rs2, so2, ot2, cn2, la2, F2, Rt2, Rc2, Rs2, So2, Ot2, Cn2, La2, hY2, ⟨s0_2, s1_2, s2_2, s3_2, s4_2, s5_2, s6_2, s7_2⟩, hg2_, hk2_, hz2_, hd2_, he2_, hA2_, hb2_⟩ := id hS
    replace hd2_ := fun _ : Unit => hd2_
    replace he2_ := fun _ : Unit => he2_
    unfold qYo at hY2
    refine lv_iload hx hb dX8_filtered_6 (lv_at hl 1 rfl) ?_
    refine lv_if_le (tgt := 115) hx hb dX8_filtered_8 (by decide) (fun c8 => ?_) (fun c8 => ?_)
    · replace c8 : s9 ≤ 0 := (nI_leI (a := s9) (b := 0) (by omega) (by omega)).mp c8
      refine lv_iconst (v := nI 0) hx hb dX8_filtered_115 (by decide) ?_
      have eX : X = (0, o, a9, k9) := by rw [← hX, xFilt, if_pos (by omega)]
      exact q_iret C hP hS9 ⟨by rw [eX], A9, by rw [eX]; exact hS, hfr9, nA9⟩ (by omega) dX8_filtered_116
    · replace c8 : ¬ s9 ≤ 0 := fun zq => c8 ((nI_leI (a := s9) (b := 0) (by omega) (by omega)).mpr zq)
      refine lv_iinc (v := nI ((999 - t) + 1)) (lv' := [(6, .int (nI ((999 - t) + 1))), (5, .int (nI s9)), (3, .long c0), (2, .int (nI wq)), (0, .ref y)]) hx hb dX8_filtered_11 hl (k := 0) rfl (nI_1 (999 - t)) (by decide) rfl (fun ls hl => ?_)
      refine lv_aload_n hx hb dX8_filtered_14 rfl (lv_at hl 4 rfl) ?_
      refine lv_dup hx hb dX8_filtered_15 rfl ?_
      refine q_get C hP hY2 rfl inX8 5 (by decide) g1172 rfl dX8_filtered_16 ?_
      refine lv_iconst (v := nI 1) hx hb dX8_filtered_19 (by decide) ?_
      refine lv_iadd hx hb dX8_filtered_20 ?_
      have hY0 := hY2
      refine q_put C hP hS9 hY2 rfl inX8 tyX8 tyX8_ok nmX8 5 (by decide) g1172 rfl rfl rfl (Nat.le_of_ble_eq_true rfl) dX8_filtered_21 (fun H locs hP hS9 => ?_)
      replace hP : qP D N0 (qs hh y (.inr (8, [.ref o.1, .ref o.2.1, .ref o.2.2.1, .int o.2.2.2.2.2.2.1, .int o.2.2.2.2.2.2.2.1, .int ((o.2.2.2.2.2.2.2.2.1) + (nI 1)), .int o.2.2.2.2.2.2.2.2.2.1, .ref o.2.2.2.1, .ref o.2.2.2.2.1, .int o.2.2.2.2.2.2.2.2.2.2.1, .int o.2.2.2.2.2.2.2.2.2.2.2.1, .ref fi2, .ref re2, .int (nI a9.1), .ref rc2, .ref rs2, .ref so2, .ref ot2, .ref cn2, .ref la2, .int (nI k9.1), .ref o.2.2.2.2.2.1, .int o.2.2.2.2.2.2.2.2.2.2.2.2]))) H := hP
      obtain ⟨hv1, ehv1⟩ : ∃ z : qH, z = qs hh y (.inr (8, [.ref o.1, .ref o.2.1, .ref o.2.2.1, .int o.2.2.2.2.2.2.1, .int o.2.2.2.2.2.2.2.1, .int ((o.2.2.2.2.2.2.2.2.1) + (nI 1)), .int o.2.2.2.2.2.2.2.2.2.1, .ref o.2.2.2.1, .ref o.2.2.2.2.1, .int o.2.2.2.2.2.2.2.2.2.2.1, .int o.2.2.2.2.2.2.2.2.2.2.2.1, .ref fi2, .ref re2, .int (nI a9.1), .ref rc2, .ref rs2, .ref so2, .ref ot2, .ref cn2, .ref la2, .int (nI k9.1), .ref o.2.2.2.2.2.1, .int o.2.2.2.2.2.2.2.2.2.2.2.2])) := ⟨_, rfl⟩
      rw [← ehv1] at hP
      have khv1 : ∀ b o, b ≠ y → hh b = some o → hv1 b = some o := by rw [ehv1]; exact fun b o nb hb => (qs_ne nb).trans hb
      replace s0_2 := khv1 _ _ (fun q => by subst q; have := s0_2.symm.trans hY2; first | cases this | simp at this) s0_2
      replace s1_2 := khv1 _ _ (fun q => by subst q; have := s1_2.symm.trans hY2; first | cases this | simp at this) s1_2
      replace s2_2 := khv1 _ _ (fun q => by subst q; have := s2_2.symm.trans hY2; first | cases this | simp at this) s2_2
      replace s3_2 := khv1 _ _ (fun q => by subst q; have := s3_2.symm.trans hY2; first | cases this | simp at this) s3_2
      replace s4_2 := khv1 _ _ (fun q => by subst q; have := s4_2.symm.trans hY2; first | cases this | simp at this) s4_2
      replace s5_2 := khv1 _ _ (fun q => by subst q; have := s5_2.symm.trans hY2; first | cases this | simp at this) s5_2
      replace s6_2 := khv1 _ _ (fun q => by subst q; have := s6_2.symm.trans hY2; first | cases this | simp at this) s6_2
      replace s7_2 := khv1 _ _ (fun q => by subst q; have := s7_2.symm.trans hY2; first | cases this | simp at this) s7_2
      replace hY2 : hv1 y = some (.inr (8, [.ref o.1, .ref o.2.1, .ref o.2.2.1, .int o.2.2.2.2.2.2.1, .int o.2.2.2.2.2.2.2.1, .int ((o.2.2.2.2.2.2.2.2.1) + (nI 1)), .int o.2.2.2.2.2.2.2.2.2.1, .ref o.2.2.2.1, .ref o.2.2.2.2.1, .int o.2.2.2.2.2.2.2.2.2.2.1, .int o.2.2.2.2.2.2.2.2.2.2.2.1, .ref fi2, .ref re2, .int (nI a9.1), .ref rc2, .ref rs2, .ref so2, .ref ot2, .ref cn2, .ref la2, .int (nI k9.1), .ref o.2.2.2.2.2.1, .int o.2.2.2.2.2.2.2.2.2.2.2.2])) := by rw [ehv1]; exact qs_self
      clear ehv1
      replace hS : qSy cy hv1 y A9 (oCa o (o.2.2.2.2.2.2.2.2.1 + nI 1)) a9 (k9) := ⟨fi2, re2, rc2, rs2, so2, ot2, cn2, la2, F2, Rt2, Rc2, Rs2, So2, Ot2, Cn2, La2, hY2, ⟨s0_2, s1_2, s2_2, s3_2, s4_2, s5_2, s6_2, s7_2⟩, hg2_, hk2_, hz2_, (hd2_ ()), (he2_ ()), hA2_, hb2_⟩
      have hFq1 : qFy hh hv1 y A9 A9 := ⟨fun b o hb n1 n2 => khv1 b o n1 hb, fun _ z => z, fun _ z => Or.inl z⟩
      have hFt1 := hfr9.tr hFq1 nA9
      replace hRz := hRz.keep hFq1 hY0
      have hV1 : qWv Bd (sl + 1) Rn dp9 ((oCa o (o.2.2.2.2.2.2.2.2.1 + nI 1)), a9, k9) := hV9.obj rfl
      refine lv_aload_n hx hb dX8_filtered_24 rfl (lv_at hl 4 rfl) ?_
      refine lv_iload_n hx hb dX8_filtered_25 rfl (lv_at hl 3 rfl) ?_
      refine lv_lload_n hx hb dX8_filtered_26 rfl (lv_at hl 2 rfl) ?_
      refine lv_aload_n hx hb dX8_filtered_27 rfl (lv_at hl 4 rfl) ?_
      refine q_get C hP hY2 rfl inX8 11 (by decide) g1178 rfl dX8_filtered_28 ?_
      refine lv_iload hx hb dX8_filtered_31 (lv_at hl 1 rfl) ?_
      refine q_laldN C hP s0_2 (by omega) (by omega) dX8_filtered_33 ?_
      rw [(hg2_ s9 (by omega)).1]
      refine q_callV (rest := []) C (c_X8_passes l D cy N0 hv1 y (o.1) (o.2.1) (o.2.2.1) (o.2.2.2.1) (o.2.2.2.2.1) fi2 re2 rc2 rs2 so2 ot2 cn2 la2 (o.2.2.2.2.2.1) (o.2.2.2.2.2.2.1) (o.2.2.2.2.2.2.2.1) ((o.2.2.2.2.2.2.2.2.1) + (nI 1)) (o.2.2.2.2.2.2.2.2.2.1) (o.2.2.2.2.2.2.2.2.2.2.1) (o.2.2.2.2.2.2.2.2.2.2.2.1) (nI a9.1) (nI k9.1) (o.2.2.2.2.2.2.2.2.2.2.2.2) wq (a9.2.2.1 s9) c0 hY2 (by omega)) kX8_passes g1355 g1357 rfl gp56 g4 hP hS9 hY2 (by first | decide | omega) hl.1 rfl (by decide) (by first | decide | omega) dX8_filtered_34 (fun q ce E h' H1 locs1 hE => hE.elim) (fun v hh1 H locs hq hP hS9 => ?_)
      rcases hq with ⟨r8, er8, rfl, rfl⟩ | ⟨er8, rfl, rfl⟩
      · cases r8 with
        | true =>
          rw [if_pos rfl]
          refine lv_istore (lv' := [(7, .int (nI 1)), (6, .int (nI ((999 - t) + 1))), (5, .int (nI s9)), (3, .long c0), (2, .int (nI wq)), (0, .ref y)]) hx hb dX8_filtered_37 hl (by decide) rfl (fun ls hl => ?_)
          refine lv_aload_n hx hb dX8_filtered_39 rfl (lv_at hl 5 rfl) ?_
          refine q_get C hP hY2 rfl inX8 10 (by decide) g1177 rfl dX8_filtered_40 ?_
          refine lv_if_eq (tgt := 48) hx hb dX8_filtered_43 (by decide) (fun _ => ?_) (fun c => absurd hfa c)
          refine lv_iload hx hb dX8_filtered_48 (lv_at hl 0 rfl) ?_
          refine lv_if_eq (tgt := 80) hx hb dX8_filtered_50 (by decide) (fun c => absurd c (by decide)) (fun _ => ?_)
          have eX : X = (a9.1, (oCa o (o.2.2.2.2.2.2.2.2.1 + nI 1)), xCons a9 (a9.2.2.1 s9) k9.1, xCell k9 4 (a9.2.2.2 s9) wq c0 0) := by rw [← hX, xFilt, if_neg (by omega), if_neg (by rw [er8]; simp), if_pos er8]
          obtain ⟨ep1, ep2⟩ := qPush1 hV9 (x := a9.2.2.1 s9) (r := k9.1)
          have eX1 : qP1 X.2.2.1 = qP1 (xCons a9 (a9.2.2.1 s9) k9.1) := by rw [eX]
          have eX2 : qP2 X.2.2.1 = qP2 (xCons a9 (a9.2.2.1 s9) k9.1) := by rw [eX]
          refine lv_aload_n hx hb dX8_filtered_53 rfl (lv_at hl 5 rfl) ?_
          refine lv_aload_n hx hb dX8_filtered_54 rfl (lv_at hl 5 rfl) ?_
          refine q_get C hP hY2 rfl inX8 11 (by decide) g1178 rfl dX8_filtered_55 ?_
          refine lv_iload hx hb dX8_filtered_58 (lv_at hl 2 rfl) ?_
          refine q_laldN C hP s0_2 (by omega) (by omega) dX8_filtered_60 ?_
          rw [(hg2_ s9 (by omega)).1]
          refine lv_aload_n hx hb dX8_filtered_61 rfl (lv_at hl 5 rfl) ?_
          refine lv_iconst (v := nI 4) hx hb dX8_filtered_62 (by decide) ?_
          refine lv_aload_n hx hb dX8_filtered_63 rfl (lv_at hl 5 rfl) ?_
          refine q_get C hP hY2 rfl inX8 12 (by decide) g1179 rfl dX8_filtered_64 ?_
          refine lv_iload hx hb dX8_filtered_67 (lv_at hl 2 rfl) ?_
          refine q_ialdN C hP s1_2 (by omega) (by omega) dX8_filtered_69 ?_
          rw [(hg2_ s9 (by omega)).2]
          refine lv_iload_n hx hb dX8_filtered_70 rfl (lv_at hl 4 rfl) ?_
          refine lv_lload_n hx hb dX8_filtered_71 rfl (lv_at hl 3 rfl) ?_
          refine lv_lconst (v := 0) hx hb dX8_filtered_72 (by decide) ?_
          refine q_callV (rest := [.long (a9.2.2.1 s9), .ref y]) C (w_cell l D cy N0 hv1 y A9 (oCa o (o.2.2.2.2.2.2.2.2.1 + nI 1)) a9 k9 4 (a9.2.2.2 s9) wq c0 0 hS (by omega)) kX8_cell g1305 g1307 rfl gp47 g4 hP hS9 hY2 (by first | decide | omega) hl.1 rfl (by simp [q_catrf, q_cati, q_catl, q_cata, q_catn]) (by first | decide | omega) dX8_filtered_73 (fun q ce E h' H1 locs1 hE => hE.elim) (fun v hh2 H locs hq hP hS9 => ?_)
          obtain ⟨rfl, Aq2, hSq2, hFq2⟩ := hq
          have nAq2 : ¬ Aq2 y := fun z => (hFq2.2.2 y z).elim nA9 (fun q => q _ hY2)
          replace hS := hSq2
          have hFt2 := hFt1.tr hFq2 nAq2
          obtain ⟨fi3, re3, rc3, rs3, so3, ot3, cn3, la3, F3, Rt3, Rc3, Rs3, So3, Ot3, Cn3, La3, hY3, ⟨s0_3, s1_3, s2_3, s3_3, s4_3, s5_3, s6_3, s7_3⟩, hg3_, hk3_, hz3_, hd3_, he3_, hA3_, hb3_⟩ := id hS
          replace hd3_ := fun _ : Unit => hd3_
          replace he3_ := fun _ : Unit => he3_
          unfold qYo at hY3
          dsimp only [oCa, oMv, oFa] at hY3
          refine q_callV (rest := []) C (w_cons l D cy N0 hh2 y Aq2 (oCa o (o.2.2.2.2.2.2.2.2.1 + nI 1)) a9 (xCell k9 4 (a9.2.2.2 s9) wq c0 0) (a9.2.2.1 s9) (k9.1) hS (by omega)) kX8_cons g1315 g1317 rfl gp48 g4 hP hS9 hY3 (by first | decide | omega) hl.1 rfl (by decide) (by first | decide | omega) dX8_filtered_76 (fun q ce E h' H1 locs1 hE => hE.elim) (fun v hh3 H locs hq hP hS9 => ?_)
          obtain ⟨rfl, Aq3, hSq3, hFq3⟩ := hq
          have nAq3 : ¬ Aq3 y := fun z => (hFq3.2.2 y z).elim nAq2 (fun q => q _ hY3)
          replace hS := hSq3
          have hFt3 := hFt2.tr hFq3 nAq3
          exact q_iret C hP hS9 ⟨by rw [eX], Aq3, by rw [eX]; exact hS, hFt3, nAq3⟩ (by omega) dX8_filtered_79
        | false =>
          rw [if_neg (by decide)]
          refine lv_istore (lv' := [(7, .int (nI 0)), (6, .int (nI ((999 - t) + 1))), (5, .int (nI s9)), (3, .long c0), (2, .int (nI wq)), (0, .ref y)]) hx hb dX8_filtered_37 hl (by decide) rfl (fun ls hl => ?_)
          refine lv_aload_n hx hb dX8_filtered_39 rfl (lv_at hl 5 rfl) ?_
          refine q_get C hP hY2 rfl inX8 10 (by decide) g1177 rfl dX8_filtered_40 ?_
          refine lv_if_eq (tgt := 48) hx hb dX8_filtered_43 (by decide) (fun _ => ?_) (fun c => absurd hfa c)
          refine lv_iload hx hb dX8_filtered_48 (lv_at hl 0 rfl) ?_
          refine lv_if_eq (tgt := 80) hx hb dX8_filtered_50 (by decide) (fun _ => ?_) (fun c => absurd rfl c)
          refine lv_iload hx hb dX8_filtered_80 (lv_at hl 1 rfl) ?_
          refine lv_sipush (v := nI 1000) hx hb dX8_filtered_82 (by decide) ?_
          refine lv_icmp_ne (tgt := 90) hx hb dX8_filtered_85 (by decide) (fun c85 => ?_) (fun c85 => ?_)
          · replace c85 : ¬ ((999 - t) + 1) = 1000 := fun zq => c85 ((nI_eq (a := ((999 - t) + 1)) (b := 1000) (by omega) (by omega)).mpr zq)
            refine lv_aload_n hx hb dX8_filtered_90 rfl (lv_at hl 5 rfl) ?_
            refine lv_aload_n hx hb dX8_filtered_91 rfl (lv_at hl 5 rfl) ?_
            refine q_get C hP hY2 rfl inX8 12 (by decide) g1179 rfl dX8_filtered_92 ?_
            refine lv_iload hx hb dX8_filtered_95 (lv_at hl 2 rfl) ?_
            refine q_ialdN C hP s1_2 (by omega) (by omega) dX8_filtered_97 ?_
            rw [(hg2_ s9 (by omega)).2]
            have er0 : a9.2.2.2 s9 = s9 := hV9.r s9 hss.1
            rw [er0]
            obtain ⟨s2, o2, a2, k2, er9⟩ : ∃ z1 z2 z3 z4, F ((oCa o (o.2.2.2.2.2.2.2.2.1 + nI 1)), a9, k9) s9 = (z1, z2, z3, z4) := ⟨_, _, _, _, rfl⟩
            have hcall := hF hv1 A9 (oCa o (o.2.2.2.2.2.2.2.2.1 + nI 1)) a9 k9 _ dp9 s9 hS nA9 hRz hV1 hfa hss.1 hss.2
            rw [er9] at hcall
            dsimp only at hcall
            have st9 := hG _ dp9 ((oCa o (o.2.2.2.2.2.2.2.2.1 + nI 1)), a9, k9) s9 hV1 hfa hss.1 hss.2
            rw [er9] at st9
            obtain ⟨dp2, d1, w2, d3, d4, d5, ⟨x6, y6, z6, e6⟩, d7⟩ := st9
            dsimp only at d1 d3 d4 d5 e6 d7
            have hX2 : X = if ¬ oFq o2 = 0 then (0, (o2, a2, k2)) else xFilt F wq c0 t (o2, a2, k2) s2 := by rw [← hX, xFilt, if_neg (by omega), if_neg (by rw [er8]; simp), if_neg (by rw [er8]; simp), if_neg (by omega)]; dsimp only; rw [er0, er9]
            have hp9 : 1 ≤ a9.1 ∧ a9.1 ≤ a9.2.1 := hV9.p
            have hpm := qP_mono (a := a9) (b := a2) (by omega) d4
            have hpX : qP1 a2 ≤ qP1 X.2.2.1 ∧ qP2 a2 ≤ qP2 X.2.2.1 := by
              rw [hX2]
              by_cases z : ¬ oFq o2 = 0
              · rw [if_pos z]; exact ⟨Nat.le_refl _, Nat.le_refl _⟩
              · rw [if_neg z]; have z2 := d5 (Decidable.not_not.mp z); exact qStp.P w2 (xFilt_stp (dc := d) hG hwq t s2 dp2 (o2, a2, k2) w2 (Decidable.not_not.mp z) ⟨z2.1, by omega, by omega⟩)
            refine q_callV (rest := []) C (hcall) kX8_force g1331 g1333 rfl gp50 g4 hP hS9 hY2 (by first | decide | omega) hl.1 rfl (by decide) (by first | decide | omega) dX8_filtered_98 (fun q ce E h' H1 locs1 hE => hE.elim) (fun v hh4 H locs hq hP hS9 => ?_)
            obtain ⟨rfl, Aq4, hSq4, hFq4, nAq4⟩ := hq
            replace hS := hSq4
            have hRz2 := hRz.keep hFq4 hY2
            replace hRz2 : qRz cy hh4 Aq4 o2.2.2.2.2.2.1 Rn R ad := by rw [e6]; exact hRz2
            have hFt4 := hFt1.tr hFq4 nAq4
            obtain ⟨fi4, re4, rc4, rs4, so4, ot4, cn4, la4, F4, Rt4, Rc4, Rs4, So4, Ot4, Cn4, La4, hY4, ⟨s0_4, s1_4, s2_4, s3_4, s4_4, s5_4, s6_4, s7_4⟩, hg4_, hk4_, hz4_, hd4_, he4_, hA4_, hb4_⟩ := id hS
            replace hd4_ := fun _ : Unit => hd4_
            replace he4_ := fun _ : Unit => he4_
            unfold qYo at hY4
            refine lv_istore (lv' := [(5, .int (nI s2)), (7, .int (nI 0)), (6, .int (nI ((999 - t) + 1))), (3, .long c0), (2, .int (nI wq)), (0, .ref y)]) hx hb dX8_filtered_101 hl (by decide) rfl (fun ls hl => ?_)
            refine lv_aload_n hx hb dX8_filtered_103 rfl (lv_at hl 5 rfl) ?_
            refine q_get C hP hY4 rfl inX8 10 (by decide) g1177 rfl dX8_filtered_104 ?_
            refine lv_if_eq (tgt := 112) hx hb dX8_filtered_107 (by decide) (fun c107 => ?_) (fun c107 => ?_)
            · refine lv_goto (tgt := 6) hx hb dX8_filtered_112 (by decide) ?_
              obtain ⟨t8, rfl⟩ : ∃ z, t = z + 1 := ⟨t - 1, by omega⟩
              rw [show 999 - (t8 + 1) + 1 = 999 - t8 by omega] at hl
              have z2 := d5 c107
              exact ihu t8 H locs ls _ Aq4 o2 a2 k2 dp2 s2 _ _ (by omega) (lv_sub hl [2, 0, 3, 4, 5] rfl) (by omega) hP hS9 hS nAq4 hRz2 w2 c107 ⟨z2.1, by omega⟩ (by rw [hX2, if_neg (fun z => z c107)]) ⟨by omega, by omega⟩ hFt4
            · refine lv_iconst (v := nI 0) hx hb dX8_filtered_110 (by decide) ?_
              have eX : X = (0, o2, a2, k2) := by rw [hX2, if_pos c107]
              exact q_iret C hP hS9 ⟨by rw [eX], Aq4, by rw [eX]; exact hS, hFt4, nAq4⟩ (by omega) dX8_filtered_111
          · replace c85 : ((999 - t) + 1) = 1000 := (nI_eq (a := ((999 - t) + 1)) (b := 1000) (by omega) (by omega)).mp c85
            refine lv_iconst (v := nI 0) hx hb dX8_filtered_88 (by decide) ?_
            have eX : X = (0, (oCa o (o.2.2.2.2.2.2.2.2.1 + nI 1)), a9, k9) := by rw [← hX, xFilt, if_neg (by omega), if_neg (by rw [er8]; simp), if_neg (by rw [er8]; simp), if_pos (by omega)]
            exact q_iret C hP hS9 ⟨by rw [eX], A9, by rw [eX]; exact hS, hFt1, nA9⟩ (by omega) dX8_filtered_89
      · replace hP : qP D N0 (qs hv1 y (.inr (8, [.ref o.1, .ref o.2.1, .ref o.2.2.1, .int o.2.2.2.2.2.2.1, .int o.2.2.2.2.2.2.2.1, .int ((o.2.2.2.2.2.2.2.2.1) + (nI 1)), .int o.2.2.2.2.2.2.2.2.2.1, .ref o.2.2.2.1, .ref o.2.2.2.2.1, .int o.2.2.2.2.2.2.2.2.2.2.1, .int 1, .ref fi2, .ref re2, .int (nI a9.1), .ref rc2, .ref rs2, .ref so2, .ref ot2, .ref cn2, .ref la2, .int (nI k9.1), .ref o.2.2.2.2.2.1, .int o.2.2.2.2.2.2.2.2.2.2.2.2]))) H := hP
        obtain ⟨hv2, ehv2⟩ : ∃ z : qH, z = qs hv1 y (.inr (8, [.ref o.1, .ref o.2.1, .ref o.2.2.1, .int o.2.2.2.2.2.2.1, .int o.2.2.2.2.2.2.2.1, .int ((o.2.2.2.2.2.2.2.2.1) + (nI 1)), .int o.2.2.2.2.2.2.2.2.2.1, .ref o.2.2.2.1, .ref o.2.2.2.2.1, .int o.2.2.2.2.2.2.2.2.2.2.1, .int 1, .ref fi2, .ref re2, .int (nI a9.1), .ref rc2, .ref rs2, .ref so2, .ref ot2, .ref cn2, .ref la2, .int (nI k9.1), .ref o.2.2.2.2.2.1, .int o.2.2.2.2.2.2.2.2.2.2.2.2])) := ⟨_, rfl⟩
        rw [← ehv2] at hP
        have khv2 : ∀ b o, b ≠ y → hv1 b = some o → hv2 b = some o := by rw [ehv2]; exact fun b o nb hb => (qs_ne nb).trans hb
        replace s0_2 := khv2 _ _ (fun q => by subst q; have := s0_2.symm.trans hY2; first | cases this | simp at this) s0_2
        replace s1_2 := khv2 _ _ (fun q => by subst q; have := s1_2.symm.trans hY2; first | cases this | simp at this) s1_2
        replace s2_2 := khv2 _ _ (fun q => by subst q; have := s2_2.symm.trans hY2; first | cases this | simp at this) s2_2
        replace s3_2 := khv2 _ _ (fun q => by subst q; have := s3_2.symm.trans hY2; first | cases this | simp at this) s3_2
        replace s4_2 := khv2 _ _ (fun q => by subst q; have := s4_2.symm.trans hY2; first | cases this | simp at this) s4_2
        replace s5_2 := khv2 _ _ (fun q => by subst q; have := s5_2.symm.trans hY2; first | cases this | simp at this) s5_2
        replace s6_2 := khv2 _ _ (fun q => by subst q; have := s6_2.symm.trans hY2; first | cases this | simp at this) s6_2
        replace s7_2 := khv2 _ _ (fun q => by subst q; have := s7_2.symm.trans hY2; first | cases this | simp at this) s7_2
        replace hY2 : hv2 y = some (.inr (8, [.ref o.1, .ref o.2.1, .ref o.2.2.1, .int o.2.2.2.2.2.2.1, .int o.2.2.2.2.2.2.2.1, .int ((o.2.2.2.2.2.2.2.2.1) + (nI 1)), .int o.2.2.2.2.2.2.2.2.2.1, .ref o.2.2.2.1, .ref o.2.2.2.2.1, .int o.2.2.2.2.2.2.2.2.2.2.1, .int 1, .ref fi2, .ref re2, .int (nI a9.1), .ref rc2, .ref rs2, .ref so2, .ref ot2, .ref cn2, .ref la2, .int (nI k9.1), .ref o.2.2.2.2.2.1, .int o.2.2.2.2.2.2.2.2.2.2.2.2])) := by rw [ehv2]; exact qs_self
        clear ehv2
        replace hS : qSy cy hv2 y A9 (oFa (oCa o (o.2.2.2.2.2.2.2.2.1 + nI 1)) 1) a9 (k9) := ⟨fi2, re2, rc2, rs2, so2, ot2, cn2, la2, F2, Rt2, Rc2, Rs2, So2, Ot2, Cn2, La2, hY2, ⟨s0_2, s1_2, s2_2, s3_2, s4_2, s5_2, s6_2, s7_2⟩, hg2_, hk2_, hz2_, (hd2_ ()), (he2_ ()), hA2_, hb2_⟩
        have hFq5 : qFy hv1 hv2 y A9 A9 := ⟨fun b o hb n1 n2 => khv2 b o n1 hb, fun _ z => z, fun _ z => Or.inl z⟩
        have hFt5 := hFt1.tr hFq5 nA9
        refine lv_istore (lv' := [(7, .int 0), (6, .int (nI ((999 - t) + 1))), (5, .int (nI s9)), (3, .long c0), (2, .int (nI wq)), (0, .ref y)]) hx hb dX8_filtered_37 hl (by decide) rfl (fun ls hl => ?_)
        refine lv_aload_n hx hb dX8_filtered_39 rfl (lv_at hl 5 rfl) ?_
        refine q_get C hP hY2 rfl inX8 10 (by decide) g1177 rfl dX8_filtered_40 ?_
        refine lv_if_eq (tgt := 48) hx hb dX8_filtered_43 (by decide) (fun c => absurd c (by decide)) (fun _ => ?_)
        refine lv_iconst (v := nI 0) hx hb dX8_filtered_46 (by decide) ?_
        have eX : X = (0, oFa (oCa o (o.2.2.2.2.2.2.2.2.1 + nI 1)) 1, a9, k9) := by rw [← hX, xFilt, if_neg (by omega), if_pos er8]
        exact q_iret C hP hS9 ⟨by rw [eX], A9, by rw [eX]; exact hS, hFt5, nA9⟩ (by omega) dX8_filtered_47
