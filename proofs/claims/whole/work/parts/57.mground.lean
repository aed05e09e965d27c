theorem dX8_holds_12 : decode cX8_holds 12 = .ok (.iload_n 2, 1) := by decide +kernel
theorem dX8_holds_13 : decode cX8_holds 13 = .ok (.aload_n 0, 1) := by decide +kernel
theorem dX8_holds_14 : decode cX8_holds 14 = .ok (.getfield 9, 3) := by decide +kernel
theorem dX8_holds_17 : decode cX8_holds 17 = .ok (.iload_n 1, 1) := by decide +kernel
theorem dX8_holds_18 : decode cX8_holds 18 = .ok (.aaload, 1) := by decide +kernel
theorem dX8_holds_19 : decode cX8_holds 19 = .ok (.getfield 75, 3) := by decide +kernel
theorem dX8_holds_22 : decode cX8_holds 22 = .ok (.ishr, 1) := by decide +kernel
theorem dX8_holds_23 : decode cX8_holds 23 = .ok (.iconst 1, 1) := by decide +kernel
theorem dX8_holds_24 : decode cX8_holds 24 = .ok (.iand, 1) := by decide +kernel
theorem dX8_holds_25 : decode cX8_holds 25 = .ok (.iconst 1, 1) := by decide +kernel
theorem dX8_holds_26 : decode cX8_holds 26 = .ok (.if_icmp .ne 7, 3) := by decide +kernel
theorem dX8_holds_29 : decode cX8_holds 29 = .ok (.iconst 1, 1) := by decide +kernel
theorem dX8_holds_30 : decode cX8_holds 30 = .ok (.goto 4, 3) := by decide +kernel
set_option maxRecDepth 100000 in
set_option maxHeartbeats 4000000 in
theorem c_X8_holds (l : Launch) (D : va_G) (cy : Nat → ClassId) (N0 : Nat) (h : qH) (y ms : Nat) (ra rk rv : Nat → Nat) (i : Nat) (ks : Int32) (fs : List Value) (kd n sm dp rw : Int32) (f g : Nat → Int64) (hY : h y = some (.inr (8, fs))) (hy0 : fs[0]? = some (.ref ms)) (hms : h ms = some (.inl (cy 5, 24, .inr (.inr (.inr (.inr (fun i => some (ra i)))))))) (hR : qRw cy h (ra i) (rk i) (rv i) kd n sm dp rw f g) (hi : i < 24) : qC l D cy N0 yX8_holds cX8_holds 3 (some .boolean) 0 0 0 0 [.ref y, .int (nI i), .int ks] h (fun v h' => v = some (.int (if bHo kd ks = true then 1 else 0)) ∧ h = h') (fun E h' => False) := by
  refine q_ofW (by decide) (by exact Nat.le_of_ble_eq_true rfl) ?_
  intro p e s m below meth c ls C hP hl
  have hx := C.1
  have hb := C.2.1
  have hS : va_S (qA N0) s.heap s.heap [] := va_S.rf
  have hl : lv_has ls 3 [(0, .ref y), (1, .int (nI i)), (2, .int ks)] := hl
  have hle : qle h h := qle_rf
  have fai := hR.2.2.2.1
  unfold qRb at fai
  refine lv_aload_n hx hb dX8_holds_0 rfl (lv_at hl 0 rfl) ?_
  refine q_get C hP hY rfl inX8 0 (by decide) g1167 hy0 dX8_holds_1 ?_
  refine lv_iload_n hx hb dX8_holds_4 rfl (lv_at hl 1 rfl) ?_
  refine q_aaldR C hP hms rfl (by omega) (by omega) rfl dX8_holds_5 ?_
  refine q_get C hP fai rfl inX7 2 (by decide) g1142 rfl dX8_holds_6 ?_
  refine lv_if_lt (tgt := 33) hx hb dX8_holds_9 (by decide) (fun c9 => ?_) (fun c9 => ?_)
  · refine lv_iconst (v := 0) hx hb dX8_holds_33 (by decide) ?_
    exact q_zret C hP hS (Or.inl rfl) ⟨by rw [bHo_f1 c9]; rfl, rfl⟩ (by omega) dX8_holds_34
  · refine lv_iload_n hx hb dX8_holds_12 rfl (lv_at hl 2 rfl) ?_
    refine lv_aload_n hx hb dX8_holds_13 rfl (lv_at hl 0 rfl) ?_
    refine q_get C hP hY rfl inX8 0 (by decide) g1167 hy0 dX8_holds_14 ?_
    refine lv_iload_n hx hb dX8_holds_17 rfl (lv_at hl 1 rfl) ?_
    refine q_aaldR C hP hms rfl (by omega) (by omega) rfl dX8_holds_18 ?_
    refine q_get C hP fai rfl inX7 2 (by decide) g1142 rfl dX8_holds_19 ?_
    refine lv_ishr hx hb dX8_holds_22 ?_
    refine lv_iconst (v := 1) hx hb dX8_holds_23 (by decide) ?_
    refine lv_iand hx hb dX8_holds_24 ?_
    refine lv_iconst (v := 1) hx hb dX8_holds_25 (by decide) ?_
    refine lv_icmp_ne (tgt := 33) hx hb dX8_holds_26 (by decide) (fun c26 => ?_) (fun c26 => ?_)
    · refine lv_iconst (v := 0) hx hb dX8_holds_33 (by decide) ?_
      exact q_zret C hP hS (Or.inl rfl) ⟨by rw [bHo_f2 c26]; rfl, rfl⟩ (by omega) dX8_holds_34
    · refine lv_iconst (v := 1) hx hb dX8_holds_29 (by decide) ?_
      refine lv_goto (tgt := 34) hx hb dX8_holds_30 (by decide) ?_
      exact q_zret C hP hS (Or.inr rfl) ⟨by rw [bHo_t (q32_not c9) c26]; rfl, rfl⟩ (by omega) dX8_holds_34

theorem dX8_done_0 : decode cX8_done 0 = .ok (.aload_n 0, 1) := by decide +kernel
theorem dX8_done_1 : decode cX8_done 1 = .ok (.dup, 1) := by decide +kernel
theorem dX8_done_2 : decode cX8_done 2 = .ok (.getfield 124, 3) := by decide +kernel
theorem dX8_done_5 : decode cX8_done 5 = .ok (.iload_n 2, 1) := by decide +kernel
theorem dX8_done_6 : decode cX8_done 6 = .ok (.iadd, 1) := by decide +kernel
theorem dX8_done_7 : decode cX8_done 7 = .ok (.putfield 124, 3) := by decide +kernel
theorem dX8_done_10 : decode cX8_done 10 = .ok (.aload_n 0, 1) := by decide +kernel
theorem dX8_done_11 : decode cX8_done 11 = .ok (.getfield 19, 3) := by decide +kernel
theorem dX8_done_14 : decode cX8_done 14 = .ok (.iconst (-1), 1) := by decide +kernel
theorem dX8_done_15 : decode cX8_done 15 = .ok (.putfield 87, 3) := by decide +kernel
theorem dX8_done_18 : decode cX8_done 18 = .ok (.aload_n 0, 1) := by decide +kernel
theorem dX8_done_19 : decode cX8_done 19 = .ok (.getfield 19, 3) := by decide +kernel
theorem dX8_done_22 : decode cX8_done 22 = .ok (.aload_n 0, 1) := by decide +kernel
theorem dX8_done_23 : decode cX8_done 23 = .ok (.getfield 9, 3) := by decide +kernel
theorem dX8_done_26 : decode cX8_done 26 = .ok (.iload_n 1, 1) := by decide +kernel
theorem dX8_done_27 : decode cX8_done 27 = .ok (.aaload, 1) := by decide +kernel
theorem dX8_done_28 : decode cX8_done 28 = .ok (.invokestatic 104, 3) := by decide +kernel
theorem dX8_done_31 : decode cX8_done 31 = .ok (.aload_n 0, 1) := by decide +kernel
theorem dX8_done_32 : decode cX8_done 32 = .ok (.iconst 0, 1) := by decide +kernel
theorem dX8_done_33 : decode cX8_done 33 = .ok (.putfield 72, 3) := by decide +kernel
theorem dX8_done_36 : decode cX8_done 36 = .ok (.aload_n 0, 1) := by decide +kernel
theorem dX8_done_37 : decode cX8_done 37 = .ok (.getfield 19, 3) := by decide +kernel
theorem dX8_done_40 : decode cX8_done 40 = .ok (.getfield 78, 3) := by decide +kernel
theorem dX8_done_43 : decode cX8_done 43 = .ok (.ireturn, 1) := by decide +kernel
set_option maxRecDepth 100000 in
set_option maxHeartbeats 4000000 in
theorem c_X8_done (l : Launch) (D : va_G) (cy : Nat → ClassId) (N0 : Nat) (h : qH) (y ms mb od pt fi re rc rs so ot cn la ro : Nat) (gr cd ca mv ct fau cs ce rn : Int32) (ra rk rv : Nat → Nat) (i : Nat) (co : Int32) (kdw smw dpw rww : Int32) (nw : Nat) (fw gw : Nat → Int64) (kd sm dp rw : Int32) (ni : Nat) (f g : Nat → Int64) (hY : h y = some (.inr (8, [.ref ms, .ref mb, .ref (ra 28), .int gr, .int cd, .int ca, .int mv, .ref od, .ref pt, .int ct, .int fau, .ref fi, .ref re, .int cs, .ref rc, .ref rs, .ref so, .ref ot, .ref cn, .ref la, .int ce, .ref ro, .int rn]))) (hms : h ms = some (.inl (cy 5, 24, .inr (.inr (.inr (.inr (fun i => some (ra i)))))))) (hmd : qMd ra rk rv) (hRw : qRw cy h (ra 28) (rk 28) (rv 28) kdw (nI nw) smw dpw rww fw gw) (hR : qRw cy h (ra i) (rk i) (rv i) kd (nI ni) sm dp rw f g) (hi : i < 24) (hn : nw ≤ 1001) : qC l D cy N0 yX8_done cX8_done 3 (some .int) 1 22 0 0 [.ref y, .int (nI i), .int co] h (fun v h' => v = some (.int (nI nw)) ∧ h' y = some (.inr (8, [.ref ms, .ref mb, .ref (ra 28), .int gr, .int 0, .int ca, .int (mv + co), .ref od, .ref pt, .int ct, .int fau, .ref fi, .ref re, .int cs, .ref rc, .ref rs, .ref so, .ref ot, .ref cn, .ref la, .int ce, .ref ro, .int rn])) ∧ qRw cy h' (ra 28) (rk 28) (rv 28) kdw (nI nw) smw dpw (-1) fw gw ∧ qRw cy h' (ra i) (rk i) (rv i) kdw (nI nw) smw dpw (-1) (qCp fw f nw) (qCp gw g nw) ∧ ∀ b o, h b = some o → b ≠ y → qOf (ra 28) (rk 28) (rv 28) b → qOf (ra i) (rk i) (rv i) b → h' b = some o) (fun E h' => False) := by
  refine q_ofW (by decide) (by exact Nat.le_of_ble_eq_true rfl) ?_
  intro p e s m below meth c ls C hP hl
  have hx := C.1
  have hb := C.2.1
  have hS : va_S (qA N0) s.heap s.heap [] := va_S.rf
  have hl : lv_has ls 3 [(0, .ref y), (1, .int (nI i)), (2, .int co)] := hl
  have hle : qle h h := qle_rf
  have faw := hRw.2.2.2.1
  have fkw := hRw.2.2.2.2.1
  have fvw := hRw.2.2.2.2.2
  unfold qRb at faw
  unfold qJr at fkw fvw
  have fai := hR.2.2.2.1
  have fki := hR.2.2.2.2.1
  have fvi := hR.2.2.2.2.2
  unfold qRb at fai
  unfold qJr at fki fvi
  have ap := hRw.apart hR (hmd.two (by omega) (by omega) (by omega))
  have aq := hR.apart hRw (hmd.two (by omega) (by omega) (by omega))
  have fr : ∀ b o, h b = some o → b ≠ y → qOf (ra 28) (rk 28) (rv 28) b → qOf (ra i) (rk i) (rv i) b → h b = some o := fun b o hb _ _ _ => hb
  refine lv_aload_n hx hb dX8_done_0 rfl (lv_at hl 0 rfl) ?_
  refine lv_dup hx hb dX8_done_1 rfl ?_
  refine q_get C hP hY rfl inX8 6 (by decide) g1173 rfl dX8_done_2 ?_
  refine lv_iload_n hx hb dX8_done_5 rfl (lv_at hl 2 rfl) ?_
  refine lv_iadd hx hb dX8_done_6 ?_
  refine q_put C hP hS hY rfl inX8 tyX8 tyX8_ok nmX8 6 (by decide) g1173 rfl rfl rfl (Nat.le_of_ble_eq_true rfl) dX8_done_7 (fun H locs hP hS => ?_)
  replace hP : qP D N0 (qs h y (.inr (8, [.ref ms, .ref mb, .ref (ra 28), .int gr, .int cd, .int ca, .int (mv + co), .ref od, .ref pt, .int ct, .int fau, .ref fi, .ref re, .int cs, .ref rc, .ref rs, .ref so, .ref ot, .ref cn, .ref la, .int ce, .ref ro, .int rn]))) H := hP
  obtain ⟨hv1, ehv1⟩ : ∃ z : qH, z = qs h y (.inr (8, [.ref ms, .ref mb, .ref (ra 28), .int gr, .int cd, .int ca, .int (mv + co), .ref od, .ref pt, .int ct, .int fau, .ref fi, .ref re, .int cs, .ref rc, .ref rs, .ref so, .ref ot, .ref cn, .ref la, .int ce, .ref ro, .int rn])) := ⟨_, rfl⟩
  rw [← ehv1] at hP
  have khv1 : ∀ b o, b ≠ y → h b = some o → hv1 b = some o := by rw [ehv1]; exact fun b o nb hb => (qs_ne nb).trans hb
  replace hms := khv1 _ _ (fun q => by subst q; have := hms.symm.trans hY; first | cases this | simp at this) hms
  replace faw := khv1 _ _ (fun q => by have z9 := faw; rw [q] at z9; have := z9.symm.trans hY; first | cases this | simp at this) faw
  replace fkw := khv1 _ _ (fun q => by have z9 := fkw; rw [q] at z9; have := z9.symm.trans hY; first | cases this | simp at this) fkw
  replace fvw := khv1 _ _ (fun q => by have z9 := fvw; rw [q] at z9; have := z9.symm.trans hY; first | cases this | simp at this) fvw
  replace fai := khv1 _ _ (fun q => by have z9 := fai; rw [q] at z9; have := z9.symm.trans hY; first | cases this | simp at this) fai
  replace fki := khv1 _ _ (fun q => by have z9 := fki; rw [q] at z9; have := z9.symm.trans hY; first | cases this | simp at this) fki
  replace fvi := khv1 _ _ (fun q => by have z9 := fvi; rw [q] at z9; have := z9.symm.trans hY; first | cases this | simp at this) fvi
  replace hY : hv1 y = some (.inr (8, [.ref ms, .ref mb, .ref (ra 28), .int gr, .int cd, .int ca, .int (mv + co), .ref od, .ref pt, .int ct, .int fau, .ref fi, .ref re, .int cs, .ref rc, .ref rs, .ref so, .ref ot, .ref cn, .ref la, .int ce, .ref ro, .int rn])) := by rw [ehv1]; exact qs_self
  clear ehv1
  replace fr := fun b o hb n1 n2 n3 => khv1 b o n1 (fr b o hb n1 n2 n3)
  refine lv_aload_n hx hb dX8_done_10 rfl (lv_at hl 0 rfl) ?_
  refine q_get C hP hY rfl inX8 2 (by decide) g1169 rfl dX8_done_11 ?_
  refine lv_iconst (v := -1) hx hb dX8_done_14 (by decide) ?_
  refine q_put C hP hS faw rfl inX7 tyX7 tyX7_ok nmX7 6 (by decide) g1147 rfl rfl rfl (Nat.le_of_ble_eq_true rfl) dX8_done_15 (fun H locs hP hS => ?_)
  replace hP : qP D N0 (qs hv1 (ra 28) (.inr (7, [.ref (rk 28), .ref (rv 28), .int kdw, .int (nI nw), .int smw, .int dpw, .int (-1)]))) H := hP
  obtain ⟨hv2, ehv2⟩ : ∃ z : qH, z = qs hv1 (ra 28) (.inr (7, [.ref (rk 28), .ref (rv 28), .int kdw, .int (nI nw), .int smw, .int dpw, .int (-1)])) := ⟨_, rfl⟩
  rw [← ehv2] at hP
  have khv2 : ∀ b o, b ≠ (ra 28) → hv1 b = some o → hv2 b = some o := by rw [ehv2]; exact fun b o nb hb => (qs_ne nb).trans hb
  replace hY := khv2 _ _ (fun q => by have z9 := hY; rw [q] at z9; have := z9.symm.trans faw; first | cases this | simp at this) hY
  replace hms := khv2 _ _ (fun q => by have z9 := hms; rw [q] at z9; have := z9.symm.trans faw; first | cases this | simp at this) hms
  replace fkw := khv2 _ _ (fun q => by have z9 := fkw; rw [q] at z9; have := z9.symm.trans faw; first | cases this | simp at this) fkw
  replace fvw := khv2 _ _ (fun q => by have z9 := fvw; rw [q] at z9; have := z9.symm.trans faw; first | cases this | simp at this) fvw
  replace fai := khv2 _ _ aq.1.1 fai
  replace fki := khv2 _ _ (fun q => by have z9 := fki; rw [q] at z9; have := z9.symm.trans faw; first | cases this | simp at this) fki
  replace fvi := khv2 _ _ (fun q => by have z9 := fvi; rw [q] at z9; have := z9.symm.trans faw; first | cases this | simp at this) fvi
  replace faw : hv2 (ra 28) = some (.inr (7, [.ref (rk 28), .ref (rv 28), .int kdw, .int (nI nw), .int smw, .int dpw, .int (-1)])) := by rw [ehv2]; exact qs_self
  clear ehv2
  replace fr := fun b o hb n1 n2 n3 => khv2 b o n2.1 (fr b o hb n1 n2 n3)
  refine lv_aload_n hx hb dX8_done_18 rfl (lv_at hl 0 rfl) ?_
  refine q_get C hP hY rfl inX8 2 (by decide) g1169 rfl dX8_done_19 ?_
  refine lv_aload_n hx hb dX8_done_22 rfl (lv_at hl 0 rfl) ?_
  refine q_get C hP hY rfl inX8 0 (by decide) g1167 rfl dX8_done_23 ?_
  refine lv_iload_n hx hb dX8_done_26 rfl (lv_at hl 1 rfl) ?_
  refine q_aaldR C hP hms rfl (by omega) (by omega) rfl dX8_done_27 ?_
  refine q_callS (rest := []) C (c_X8_copy l D cy N0 hv2 (ra 28) (rk 28) (rv 28) kdw smw dpw (-1) nw fw gw (ra i) (rk i) (rv i) kd sm dp rw ni f g ⟨hRw.1, hRw.2.1, hRw.2.2.1, faw, fkw, fvw⟩ ⟨hR.1, hR.2.1, hR.2.2.1, fai, fki, fvi⟩ ⟨ap.1, ap.2.1, ap.2.2⟩ (by omega)) kX8_copy g1257 g1258 hP hS (by first | decide | omega) hl.1 rfl (by decide) (by first | decide | omega) dX8_done_28 (fun q ce E h' H1 locs1 hE => hE.elim) (fun v hh1 H locs hq hP hS => ?_)
  obtain ⟨rfl, rfl⟩ := hq
  obtain ⟨hv3, ehv3⟩ : ∃ z : qH, z = qRh cy hv2 (ra i) (rk i) (rv i) kdw (nI nw) smw dpw (-1) (qCp fw f nw) (qCp gw g nw) := ⟨_, rfl⟩
  rw [← ehv3] at hP
  have r9 : qRw cy hv3 (ra i) (rk i) (rv i) kdw (nI nw) smw dpw (-1) (qCp fw f nw) (qCp gw g nw) := by rw [ehv3]; exact qRw.new (cy := cy) (h := hv2) (kd := kd) (n := (nI ni)) (sm := sm) (dp := dp) (rw := rw) (f := f) (g := g) ⟨hR.1, hR.2.1, hR.2.2.1, fai, fki, fvi⟩
  have khv3 : ∀ b o, qOf (ra i) (rk i) (rv i) b → hv2 b = some o → hv3 b = some o := by rw [ehv3]; exact fun b o q hb => (qRh_o q.1 q.2.1 q.2.2).trans hb
  replace hY := khv3 _ _ ⟨fun q => by rw [q] at hY; have := fai.symm.trans hY; first | cases this | simp at this, fun q => by rw [q] at hY; have := fki.symm.trans hY; first | cases this | simp at this, fun q => by rw [q] at hY; have := fvi.symm.trans hY; first | cases this | simp at this⟩ hY
  replace hms := khv3 _ _ ⟨fun q => by rw [q] at hms; have := fai.symm.trans hms; first | cases this | simp at this, fun q => by rw [q] at hms; have := fki.symm.trans hms; first | cases this | simp at this, fun q => by rw [q] at hms; have := fvi.symm.trans hms; first | cases this | simp at this⟩ hms
  replace faw := khv3 _ _ ap.1 faw
  replace fkw := khv3 _ _ ap.2.1 fkw
  replace fvw := khv3 _ _ ap.2.2 fvw
  replace fr := fun b o hb n1 n2 n3 => khv3 b o n3 (fr b o hb n1 n2 n3)
  clear fai fki fvi
  have fai := r9.2.2.2.1
  have fki := r9.2.2.2.2.1
  have fvi := r9.2.2.2.2.2
  unfold qRb at fai
  unfold qJr at fki fvi
  clear r9 ehv3
  refine lv_aload_n hx hb dX8_done_31 rfl (lv_at hl 0 rfl) ?_
  refine lv_iconst (v := 0) hx hb dX8_done_32 (by decide) ?_
  refine q_put C hP hS hY rfl inX8 tyX8 tyX8_ok nmX8 4 (by decide) g1171 rfl rfl rfl (Nat.le_of_ble_eq_true rfl) dX8_done_33 (fun H locs hP hS => ?_)
  replace hP : qP D N0 (qs hv3 y (.inr (8, [.ref ms, .ref mb, .ref (ra 28), .int gr, .int 0, .int ca, .int (mv + co), .ref od, .ref pt, .int ct, .int fau, .ref fi, .ref re, .int cs, .ref rc, .ref rs, .ref so, .ref ot, .ref cn, .ref la, .int ce, .ref ro, .int rn]))) H := hP
  obtain ⟨hv4, ehv4⟩ : ∃ z : qH, z = qs hv3 y (.inr (8, [.ref ms, .ref mb, .ref (ra 28), .int gr, .int 0, .int ca, .int (mv + co), .ref od, .ref pt, .int ct, .int fau, .ref fi, .ref re, .int cs, .ref rc, .ref rs, .ref so, .ref ot, .ref cn, .ref la, .int ce, .ref ro, .int rn])) := ⟨_, rfl⟩
  rw [← ehv4] at hP
  have khv4 : ∀ b o, b ≠ y → hv3 b = some o → hv4 b = some o := by rw [ehv4]; exact fun b o nb hb => (qs_ne nb).trans hb
  replace hms := khv4 _ _ (fun q => by subst q; have := hms.symm.trans hY; first | cases this | simp at this) hms
  replace faw := khv4 _ _ (fun q => by have z9 := faw; rw [q] at z9; have := z9.symm.trans hY; first | cases this | simp at this) faw
  replace fkw := khv4 _ _ (fun q => by have z9 := fkw; rw [q] at z9; have := z9.symm.trans hY; first | cases this | simp at this) fkw
  replace fvw := khv4 _ _ (fun q => by have z9 := fvw; rw [q] at z9; have := z9.symm.trans hY; first | cases this | simp at this) fvw
  replace fai := khv4 _ _ (fun q => by have z9 := fai; rw [q] at z9; have := z9.symm.trans hY; first | cases this | simp at this) fai
  replace fki := khv4 _ _ (fun q => by have z9 := fki; rw [q] at z9; have := z9.symm.trans hY; first | cases this | simp at this) fki
  replace fvi := khv4 _ _ (fun q => by have z9 := fvi; rw [q] at z9; have := z9.symm.trans hY; first | cases this | simp at this) fvi
  replace hY : hv4 y = some (.inr (8, [.ref ms, .ref mb, .ref (ra 28), .int gr, .int 0, .int ca, .int (mv + co), .ref od, .ref pt, .int ct, .int fau, .ref fi, .ref re, .int cs, .ref rc, .ref rs, .ref so, .ref ot, .ref cn, .ref la, .int ce, .ref ro, .int rn])) := by rw [ehv4]; exact qs_self
  clear ehv4
  replace fr := fun b o hb n1 n2 n3 => khv4 b o n1 (fr b o hb n1 n2 n3)
  refine lv_aload_n hx hb dX8_done_36 rfl (lv_at hl 0 rfl) ?_
  refine q_get C hP hY rfl inX8 2 (by decide) g1169 rfl dX8_done_37 ?_
  refine q_get C hP faw rfl inX7 3 (by decide) g1143 rfl dX8_done_40 ?_
  exact q_iret C hP hS ⟨rfl, hY, ⟨hRw.1, hRw.2.1, hRw.2.2.1, faw, fkw, fvw⟩, ⟨hR.1, hR.2.1, hR.2.2.1, fai, fki, fvi⟩, fr⟩ (by omega) dX8_done_43
