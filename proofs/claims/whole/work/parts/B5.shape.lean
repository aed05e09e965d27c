section QODK
variable {cy : Nat → ClassId} {h h' : qH} {ms mb mw y od pt : Nat} {ra rk rv pa : Nat → Nat} {S : Nat → qSlot}
theorem qOd.keep (o : qOd cy h od pt pa) (k : ∀ b x, h b = some (.inl x) → ((∃ O, x.2.2 = .inl O) ∨ ∃ q, x.2.2 = .inr (.inr (.inr (.inr q)))) → h' b = some (.inl x)) : qOd cy h' od pt pa := by
  obtain ⟨h1, ⟨O, h2⟩, ⟨Q, h3⟩, h4, h5⟩ := o
  exact ⟨k _ _ h1 (Or.inr ⟨_, rfl⟩), ⟨O, k _ _ h2 (Or.inl ⟨_, rfl⟩)⟩, ⟨Q, fun d hd => k _ _ (h3 d hd) (Or.inl ⟨_, rfl⟩)⟩, h4, h5⟩
theorem qRw.of {a ka va : Nat} {kd n sm dp rw : Int32} {f g : Nat → Int64} (r : qRw cy h a ka va kd n sm dp rw f g) {b : Nat} {x : ClassId × vp_A} (hb : h b = some (.inl x)) (hx : (∃ O, x.2.2 = .inl O) ∨ ∃ q, x.2.2 = .inr (.inr (.inr (.inr q)))) : qOf a ka va b := by
  obtain ⟨-, -, -, r4, r5, r6⟩ := r
  unfold qRb at r4
  unfold qJr at r5 r6
  refine ⟨fun q => ?_, fun q => ?_, fun q => ?_⟩
  · rw [q, r4] at hb; cases hb
  · rw [q, r5] at hb; cases hb; rcases hx with ⟨O, z⟩ | ⟨q, z⟩ <;> cases z
  · rw [q, r6] at hb; cases hb; rcases hx with ⟨O, z⟩ | ⟨q, z⟩ <;> cases z
/-- a call that has changed the object and the work row -/
theorem qOd.fr {fs : List Value} {kd n sm dp rw : Int32} {f g : Nat → Int64} {a ka va : Nat} (o : qOd cy h od pt pa) (hy : h y = some (.inr (8, fs))) (r : qRw cy h a ka va kd n sm dp rw f g) (fr : ∀ b o, h b = some o → b ≠ y → qOf a ka va b → h' b = some o) : qOd cy h' od pt pa :=
  o.keep (fun b x hb hx => fr b _ hb (qne_arr (cy := cy) hb hy) (r.of hb hx))
/-- all but the object, the order's rows is kept: the rows stand as they stood -/
theorem qMR.keepO {fs : List Value} (m : qMR cy h ms mb mw ra rk rv S) (hy : h y = some (.inr (8, fs))) (o : qOd cy h od pt pa) (fr : ∀ b o, h b = some o → b ≠ y → b ≠ od → (∀ d, d < 8 → b ≠ pa d) → h' b = some o) : qMR cy h' ms mb mw ra rk rv S := by
  have ka : ∀ {b : Nat} {x : va_E}, h b = some x → ((∃ z, x = .inl z ∧ ∀ O, z.2.2 ≠ .inl O) ∨ ∃ fs, x = .inr (7, fs)) → h' b = some x := fun hb hx => by
    have n := o.no hy hb hx
    exact fr _ _ hb n.1 n.2.1 n.2.2
  obtain ⟨m1, m2, m3, m4, m5, kd9, sm9, dp9, rw9, n9, f9, g9, m6⟩ := m
  have kr : ∀ {a ka va : Nat} {kd n sm dp rw : Int32} {f g : Nat → Int64}, qRw cy h a ka va kd n sm dp rw f g → qRw cy h' a ka va kd n sm dp rw f g := fun r => by
    obtain ⟨r1, r2, r3, r4, r5, r6⟩ := r
    exact ⟨r1, r2, r3, ka r4 (Or.inr ⟨_, rfl⟩), ka r5 (Or.inl ⟨_, rfl, fun O z => by cases z⟩), ka r6 (Or.inl ⟨_, rfl, fun O z => by cases z⟩)⟩
  refine ⟨ka m1 (Or.inl ⟨_, rfl, fun O z => by cases z⟩), ka m2 (Or.inl ⟨_, rfl, fun O z => by cases z⟩), m3, m4, fun j hj => ?_, kd9, sm9, dp9, rw9, n9, f9, g9, kr m6⟩
  obtain ⟨n, rw_, f, g, r, q1, q2⟩ := m5 j hj
  exact ⟨n, rw_, f, g, kr r, q1, q2⟩
end QODK
/-- what a call of the reference that finds the order leaves alone -/
def qFo (h h' : qH) (y od : Nat) (ra rk rv pa : Nat → Nat) : Prop := ∀ b o, h b = some o → b ≠ y → (∀ i, i < 29 → qOf (ra i) (rk i) (rv i) b) → b ≠ od → (∀ d, d < 8 → b ≠ pa d) → h' b = some o
def xs_shape (gr : Int32) (S : Nat → qSlot) (p0 : Int32) : Int32 × Int32 := if bSl p0 = false then (1, 0) else if bHo (S p0.toNatClampNeg).1 6 = false then (2, 0) else (0, nI (thSh (qMk gr) 7 (S p0.toNatClampNeg).2.1))
theorem bHo_6 {kd : Int32} (h : kd ∈ [(-1 : Int32), 0, 1, 2, 3, 4, 5, 6]) (e : bHo kd 6 = true) : kd = 1 ∨ kd = 2 := by
  simp only [List.mem_cons, List.not_mem_nil, or_false] at h
  rcases h with rfl | rfl | rfl | rfl | rfl | rfl | rfl | rfl <;> revert e <;> decide
theorem dX8_shape_29 : decode cX8_shape 29 = .ok (.aload_n 0, 1) := by decide +kernel
theorem dX8_shape_30 : decode cX8_shape 30 = .ok (.getfield 9, 3) := by decide +kernel
theorem dX8_shape_33 : decode cX8_shape 33 = .ok (.iload_n 1, 1) := by decide +kernel
theorem dX8_shape_34 : decode cX8_shape 34 = .ok (.aaload, 1) := by decide +kernel
theorem dX8_shape_35 : decode cX8_shape 35 = .ok (.astore_n 2, 1) := by decide +kernel
theorem dX8_shape_36 : decode cX8_shape 36 = .ok (.iconst 0, 1) := by decide +kernel
theorem dX8_shape_37 : decode cX8_shape 37 = .ok (.istore_n 3, 1) := by decide +kernel
theorem dX8_shape_38 : decode cX8_shape 38 = .ok (.iload_n 3, 1) := by decide +kernel
theorem dX8_shape_39 : decode cX8_shape 39 = .ok (.aload_n 2, 1) := by decide +kernel
theorem dX8_shape_40 : decode cX8_shape 40 = .ok (.getfield 78, 3) := by decide +kernel
theorem dX8_shape_43 : decode cX8_shape 43 = .ok (.if_icmp .ge 18, 3) := by decide +kernel
theorem dX8_shape_46 : decode cX8_shape 46 = .ok (.aload_n 0, 1) := by decide +kernel
theorem dX8_shape_47 : decode cX8_shape 47 = .ok (.getfield 29, 3) := by decide +kernel
theorem dX8_shape_50 : decode cX8_shape 50 = .ok (.iconst 0, 1) := by decide +kernel
theorem dX8_shape_51 : decode cX8_shape 51 = .ok (.aaload, 1) := by decide +kernel
theorem dX8_shape_52 : decode cX8_shape 52 = .ok (.iload_n 3, 1) := by decide +kernel
theorem dX8_shape_53 : decode cX8_shape 53 = .ok (.iload_n 3, 1) := by decide +kernel
theorem dX8_shape_54 : decode cX8_shape 54 = .ok (.iastore, 1) := by decide +kernel
theorem dX8_shape_55 : decode cX8_shape 55 = .ok (.iinc 3 1, 3) := by decide +kernel
theorem dX8_shape_58 : decode cX8_shape 58 = .ok (.goto (-20), 3) := by decide +kernel
theorem dX8_shape_61 : decode cX8_shape 61 = .ok (.aload_n 0, 1) := by decide +kernel
theorem dX8_shape_62 : decode cX8_shape 62 = .ok (.iconst 0, 1) := by decide +kernel
theorem dX8_shape_63 : decode cX8_shape 63 = .ok (.putfield 171, 3) := by decide +kernel
theorem dX8_shape_66 : decode cX8_shape 66 = .ok (.aload_n 0, 1) := by decide +kernel
theorem dX8_shape_67 : decode cX8_shape 67 = .ok (.aload_n 2, 1) := by decide +kernel
theorem dX8_shape_68 : decode cX8_shape 68 = .ok (.iconst 0, 1) := by decide +kernel
theorem dX8_shape_69 : decode cX8_shape 69 = .ok (.aload_n 2, 1) := by decide +kernel
theorem dX8_shape_70 : decode cX8_shape 70 = .ok (.getfield 78, 3) := by decide +kernel
theorem dX8_shape_73 : decode cX8_shape 73 = .ok (.invokevirtual 174, 3) := by decide +kernel
theorem dX8_shape_76 : decode cX8_shape 76 = .ok (.ireturn, 1) := by decide +kernel
set_option maxRecDepth 100000 in
set_option maxHeartbeats 4000000 in
theorem c_X8_shape (l : Launch) (D : va_G) (cy : Nat → ClassId) (N0 : Nat) (h : qH) (y ms mb mw od pt fi re rc rs so ot cn la ro : Nat) (gr cd ca mv ct fau cs ce rn : Int32) (ra rk rv : Nat → Nat) (S : Nat → qSlot) (pa : Nat → Nat) (p0 : Int32) (hY : h y = some (.inr (8, [.ref ms, .ref mb, .ref mw, .int gr, .int cd, .int ca, .int mv, .ref od, .ref pt, .int ct, .int fau, .ref fi, .ref re, .int cs, .ref rc, .ref rs, .ref so, .ref ot, .ref cn, .ref la, .int ce, .ref ro, .int rn]))) (hM : qMR cy h ms mb mw ra rk rv S) (hI : ∀ i, i < 28 → qOk (S i).1 (S i).2.1) (hO : qOd cy h od pt pa) : qC l D cy N0 yX8_shape cX8_shape 4 (some .int) 12 600 0 0 [.ref y, .int p0] h (fun v h' => v = some (.int (xs_shape gr S p0).2) ∧ (∃ ct', h' y = some (.inr (8, [.ref ms, .ref mb, .ref mw, .int gr, .int (xs_shape gr S p0).1, .int ca, .int mv, .ref od, .ref pt, .int ct', .int fau, .ref fi, .ref re, .int cs, .ref rc, .ref rs, .ref so, .ref ot, .ref cn, .ref la, .int ce, .ref ro, .int rn]))) ∧ qMR cy h' ms mb mw ra rk rv (S) ∧ qOd cy h' od pt pa ∧ qFo h h' y od ra rk rv pa) (fun E h' => False) := by
  refine q_ofW (by decide) (by exact Nat.le_of_ble_eq_true rfl) ?_
  intro p e s m below meth c ls C hP hl
  have hx := C.1
  have hb := C.2.1
  have hS : va_S (qA N0) s.heap s.heap [] := va_S.rf
  have hl : lv_has ls 4 [(0, .ref y), (1, .int p0)] := hl
  have hY0 := hY
  obtain ⟨hms, hmb, hmw, hmd, hrs, kdw, smw, dpw, rww, nw, fw, gw, hRw⟩ := id hM
  subst hmw
  have fr : ∀ b o, h b = some o → b ≠ y → qOf (ra 28) (rk 28) (rv 28) b → h b = some o := fun b o hb _ _ => hb
  have faw := hRw.2.2.2.1
  have fkw := hRw.2.2.2.2.1
  have fvw := hRw.2.2.2.2.2
  unfold qRb at faw
  unfold qJr at fkw fvw
  refine lv_aload_n hx hb dX8_shape_0 rfl (lv_at hl 0 rfl) ?_
  refine lv_iload_n hx hb dX8_shape_1 rfl (lv_at hl 1 rfl) ?_
  refine q_callS (rest := [.ref y]) C (c_X8_isSlot l D cy N0 h p0) kX8_isSlot g1246 g1247 hP hS (by first | decide | omega) hl.1 rfl (by simp [q_catrf, q_cati, q_catl, q_cata, q_catn]) (by first | decide | omega) dX8_shape_2 (fun q ce E h' H1 locs1 hE => hE.elim) (fun v hh1 H locs hq hP hS => ?_)
  obtain ⟨rfl, ⟨rfl, sl9⟩ | ⟨rfl, sl9⟩⟩ := hq
  · obtain ⟨i, hi, rfl⟩ := sl9.of
    have ebi : bSl (nI i) = true := bSl_t sl9
    have eci : (nI i).toNatClampNeg = i := nI_clamp (by omega)
    refine lv_iconst (v := nI 1) hx hb dX8_shape_5 (by decide) ?_
    refine q_callV (rest := []) C (c_X8_good1 l D cy N0 h y ms mb (ra 28) od pt fi re rc rs so ot cn la ro gr cd ca mv ct fau cs ce rn (nI 1) hY) kX8_good g1249 g1251 rfl gp41 g4 hP hS hY (by first | decide | omega) hl.1 rfl (by decide) (by first | decide | omega) dX8_shape_6 (fun q ce E h' H1 locs1 hE => hE.elim) (fun v hh2 H locs hq hP hS => ?_)
    obtain ⟨rfl, rfl⟩ := hq
    replace hP : qP D N0 (qs h y (.inr (8, [.ref ms, .ref mb, .ref (ra 28), .int gr, .int 0, .int ca, .int mv, .ref od, .ref pt, .int ct, .int fau, .ref fi, .ref re, .int cs, .ref rc, .ref rs, .ref so, .ref ot, .ref cn, .ref la, .int ce, .ref ro, .int rn]))) H := hP
    obtain ⟨hv1, ehv1⟩ : ∃ z : qH, z = qs h y (.inr (8, [.ref ms, .ref mb, .ref (ra 28), .int gr, .int 0, .int ca, .int mv, .ref od, .ref pt, .int ct, .int fau, .ref fi, .ref re, .int cs, .ref rc, .ref rs, .ref so, .ref ot, .ref cn, .ref la, .int ce, .ref ro, .int rn])) := ⟨_, rfl⟩
    rw [← ehv1] at hP
    have khv1 : ∀ b o, b ≠ y → h b = some o → hv1 b = some o := by rw [ehv1]; exact fun b o nb hb => (qs_ne nb).trans hb
    replace hms := khv1 _ _ (fun q => by subst q; have := hms.symm.trans hY; first | cases this | simp at this) hms
    replace hmb := khv1 _ _ (fun q => by subst q; have := hmb.symm.trans hY; first | cases this | simp at this) hmb
    replace faw := khv1 _ _ (fun q => by have z9 := faw; rw [q] at z9; have := z9.symm.trans hY; first | cases this | simp at this) faw
    replace fkw := khv1 _ _ (fun q => by have z9 := fkw; rw [q] at z9; have := z9.symm.trans hY; first | cases this | simp at this) fkw
    replace fvw := khv1 _ _ (fun q => by have z9 := fvw; rw [q] at z9; have := z9.symm.trans hY; first | cases this | simp at this) fvw
    replace hY : hv1 y = some (.inr (8, [.ref ms, .ref mb, .ref (ra 28), .int gr, .int 0, .int ca, .int mv, .ref od, .ref pt, .int ct, .int fau, .ref fi, .ref re, .int cs, .ref rc, .ref rs, .ref so, .ref ot, .ref cn, .ref la, .int ce, .ref ro, .int rn])) := by rw [ehv1]; exact qs_self
    clear ehv1
    replace fr := fun b o hb n1 n2 => khv1 b o n1 (fr b o hb n1 n2)
    refine lv_if_eq (tgt := 27) hx hb dX8_shape_9 (by decide) (fun c9 => ?_) (fun c9 => ?_)
    · replace c9 : 1 = 0 := (nI_eq (a := 1) (b := 0) (by omega) (by omega)).mp c9
      exfalso; omega
    · replace c9 : ¬ 1 = 0 := fun zq => c9 ((nI_eq (a := 1) (b := 0) (by omega) (by omega)).mpr zq)
      refine lv_aload_n hx hb dX8_shape_12 rfl (lv_at hl 0 rfl) ?_
      refine lv_aload_n hx hb dX8_shape_13 rfl (lv_at hl 0 rfl) ?_
      refine lv_iload_n hx hb dX8_shape_14 rfl (lv_at hl 1 rfl) ?_
      refine lv_bipush (v := nI 6) hx hb dX8_shape_15 (by decide) ?_
      obtain ⟨ni, rwi, Fi, Gi, hRi, hni, hLi, hKi⟩ := hrs i (by omega)
      have api := hRi.apart hRw (hmd.two (i := i) (j := 28) (by omega) (by omega) (by omega))
      replace hRi := hRi.keep2 (fun b o hb ho => fr b o ho (hRi.ney hY0 hb) (hb.elim (fun q => q ▸ api.1) (fun hb => hb.elim (fun q => q ▸ api.2.1) (fun q => q ▸ api.2.2))))
      have fai := hRi.2.2.2.1
      have fki := hRi.2.2.2.2.1
      have fvi := hRi.2.2.2.2.2
      unfold qRb at fai
      unfold qJr at fki fvi
      refine q_callV (rest := [.ref y]) C (c_X8_holds l D cy N0 hv1 y ms ra rk rv i 6 _ _ _ _ _ _ _ _ hY rfl hms ⟨hRi.1, hRi.2.1, hRi.2.2.1, fai, fki, fvi⟩ (by omega)) kX8_holds g1264 g1266 rfl gp42 g4 hP hS hY (by first | decide | omega) hl.1 rfl (by simp [q_catrf, q_cati, q_catl, q_cata, q_catn]) (by first | decide | omega) dX8_shape_17 (fun q ce E h' H1 locs1 hE => hE.elim) (fun v hh3 H locs hq hP hS => ?_)
      obtain ⟨rfl, rfl⟩ := hq
      cases hoi : bHo (S i).1 6 with
      | false =>
        refine lv_iconst (v := nI 2) hx hb dX8_shape_20 (by decide) ?_
        refine q_callV (rest := []) C (c_X8_good0 l D cy N0 hv1 y ms mb (ra 28) od pt fi re rc rs so ot cn la ro gr 0 ca mv ct fau cs ce rn (nI 2) hY) kX8_good g1249 g1251 rfl gp41 g4 hP hS hY (by first | decide | omega) hl.1 rfl (by decide) (by first | decide | omega) dX8_shape_21 (fun q ce E h' H1 locs1 hE => hE.elim) (fun v hh4 H locs hq hP hS => ?_)
        obtain ⟨rfl, rfl⟩ := hq
        replace hP : qP D N0 (qs hv1 y (.inr (8, [.ref ms, .ref mb, .ref (ra 28), .int gr, .int (nI 2), .int ca, .int mv, .ref od, .ref pt, .int ct, .int fau, .ref fi, .ref re, .int cs, .ref rc, .ref rs, .ref so, .ref ot, .ref cn, .ref la, .int ce, .ref ro, .int rn]))) H := hP
        obtain ⟨hv2, ehv2⟩ : ∃ z : qH, z = qs hv1 y (.inr (8, [.ref ms, .ref mb, .ref (ra 28), .int gr, .int (nI 2), .int ca, .int mv, .ref od, .ref pt, .int ct, .int fau, .ref fi, .ref re, .int cs, .ref rc, .ref rs, .ref so, .ref ot, .ref cn, .ref la, .int ce, .ref ro, .int rn])) := ⟨_, rfl⟩
        rw [← ehv2] at hP
        have khv2 : ∀ b o, b ≠ y → hv1 b = some o → hv2 b = some o := by rw [ehv2]; exact fun b o nb hb => (qs_ne nb).trans hb
        replace hms := khv2 _ _ (fun q => by subst q; have := hms.symm.trans hY; first | cases this | simp at this) hms
        replace hmb := khv2 _ _ (fun q => by subst q; have := hmb.symm.trans hY; first | cases this | simp at this) hmb
        replace faw := khv2 _ _ (fun q => by have z9 := faw; rw [q] at z9; have := z9.symm.trans hY; first | cases this | simp at this) faw
        replace fkw := khv2 _ _ (fun q => by have z9 := fkw; rw [q] at z9; have := z9.symm.trans hY; first | cases this | simp at this) fkw
        replace fvw := khv2 _ _ (fun q => by have z9 := fvw; rw [q] at z9; have := z9.symm.trans hY; first | cases this | simp at this) fvw
        replace fai := khv2 _ _ (fun q => by have z9 := fai; rw [q] at z9; have := z9.symm.trans hY; first | cases this | simp at this) fai
        replace fki := khv2 _ _ (fun q => by have z9 := fki; rw [q] at z9; have := z9.symm.trans hY; first | cases this | simp at this) fki
        replace fvi := khv2 _ _ (fun q => by have z9 := fvi; rw [q] at z9; have := z9.symm.trans hY; first | cases this | simp at this) fvi
        replace hY : hv2 y = some (.inr (8, [.ref ms, .ref mb, .ref (ra 28), .int gr, .int (nI 2), .int ca, .int mv, .ref od, .ref pt, .int ct, .int fau, .ref fi, .ref re, .int cs, .ref rc, .ref rs, .ref so, .ref ot, .ref cn, .ref la, .int ce, .ref ro, .int rn])) := by rw [ehv2]; exact qs_self
        clear ehv2
        replace fr := fun b o hb n1 n2 => khv2 b o n1 (fr b o hb n1 n2)
        refine lv_if_ne (tgt := 29) hx hb dX8_shape_24 (by decide) (fun c24 => ?_) (fun c24 => ?_)
        · replace c24 : ¬ 0 = 0 := fun zq => c24 ((nI_eq (a := 0) (b := 0) (by omega) (by omega)).mpr zq)
          exfalso; omega
        · replace c24 : 0 = 0 := (nI_eq (a := 0) (b := 0) (by omega) (by omega)).mp c24
          refine lv_iconst (v := nI 0) hx hb dX8_shape_27 (by decide) ?_
          have ex : xs_shape gr S (nI i) = (2, 0) := by simp [xs_shape, ebi, eci, hoi]
          obtain ⟨m9, f9⟩ := hM.fin0 hY0 (h' := hv2) ⟨hRw.1, hRw.2.1, hRw.2.2.1, faw, fkw, fvw⟩ fr
          exact q_iret C hP hS ⟨by first | (rw [ex]; done) | (rw [ex]; rfl), ⟨_, by rw [ex]; exact hY⟩, m9, hO.fr hY0 hRw fr, fun b o hb n1 n2 _ _ => f9 b o hb n1 n2⟩ (by omega) dX8_shape_28
      | true =>
        refine lv_iconst (v := nI 2) hx hb dX8_shape_20 (by decide) ?_
        refine q_callV (rest := []) C (c_X8_good1 l D cy N0 hv1 y ms mb (ra 28) od pt fi re rc rs so ot cn la ro gr 0 ca mv ct fau cs ce rn (nI 2) hY) kX8_good g1249 g1251 rfl gp41 g4 hP hS hY (by first | decide | omega) hl.1 rfl (by decide) (by first | decide | omega) dX8_shape_21 (fun q ce E h' H1 locs1 hE => hE.elim) (fun v hh5 H locs hq hP hS => ?_)
        obtain ⟨rfl, rfl⟩ := hq
        replace hP : qP D N0 (qs hv1 y (.inr (8, [.ref ms, .ref mb, .ref (ra 28), .int gr, .int 0, .int ca, .int mv, .ref od, .ref pt, .int ct, .int fau, .ref fi, .ref re, .int cs, .ref rc, .ref rs, .ref so, .ref ot, .ref cn, .ref la, .int ce, .ref ro, .int rn]))) H := hP
        obtain ⟨hv3, ehv3⟩ : ∃ z : qH, z = qs hv1 y (.inr (8, [.ref ms, .ref mb, .ref (ra 28), .int gr, .int 0, .int ca, .int mv, .ref od, .ref pt, .int ct, .int fau, .ref fi, .ref re, .int cs, .ref rc, .ref rs, .ref so, .ref ot, .ref cn, .ref la, .int ce, .ref ro, .int rn])) := ⟨_, rfl⟩
        rw [← ehv3] at hP
        have khv3 : ∀ b o, b ≠ y → hv1 b = some o → hv3 b = some o := by rw [ehv3]; exact fun b o nb hb => (qs_ne nb).trans hb
        replace hms := khv3 _ _ (fun q => by subst q; have := hms.symm.trans hY; first | cases this | simp at this) hms
        replace hmb := khv3 _ _ (fun q => by subst q; have := hmb.symm.trans hY; first | cases this | simp at this) hmb
        replace faw := khv3 _ _ (fun q => by have z9 := faw; rw [q] at z9; have := z9.symm.trans hY; first | cases this | simp at this) faw
        replace fkw := khv3 _ _ (fun q => by have z9 := fkw; rw [q] at z9; have := z9.symm.trans hY; first | cases this | simp at this) fkw
        replace fvw := khv3 _ _ (fun q => by have z9 := fvw; rw [q] at z9; have := z9.symm.trans hY; first | cases this | simp at this) fvw
        replace fai := khv3 _ _ (fun q => by have z9 := fai; rw [q] at z9; have := z9.symm.trans hY; first | cases this | simp at this) fai
        replace fki := khv3 _ _ (fun q => by have z9 := fki; rw [q] at z9; have := z9.symm.trans hY; first | cases this | simp at this) fki
        replace fvi := khv3 _ _ (fun q => by have z9 := fvi; rw [q] at z9; have := z9.symm.trans hY; first | cases this | simp at this) fvi
        replace hY : hv3 y = some (.inr (8, [.ref ms, .ref mb, .ref (ra 28), .int gr, .int 0, .int ca, .int mv, .ref od, .ref pt, .int ct, .int fau, .ref fi, .ref re, .int cs, .ref rc, .ref rs, .ref so, .ref ot, .ref cn, .ref la, .int ce, .ref ro, .int rn])) := by rw [ehv3]; exact qs_self
        clear ehv3
        replace fr := fun b o hb n1 n2 => khv3 b o n1 (fr b o hb n1 n2)
        refine lv_if_ne (tgt := 29) hx hb dX8_shape_24 (by decide) (fun c24 => ?_) (fun c24 => ?_)
        · replace c24 : ¬ 1 = 0 := fun zq => c24 ((nI_eq (a := 1) (b := 0) (by omega) (by omega)).mpr zq)
          refine lv_aload_n hx hb dX8_shape_29 rfl (lv_at hl 0 rfl) ?_
          refine q_get C hP hY rfl inX8 0 (by decide) g1167 rfl dX8_shape_30 ?_
          refine lv_iload_n hx hb dX8_shape_33 rfl (lv_at hl 1 rfl) ?_
          refine q_aaldR C hP hms rfl (by omega) (by omega) rfl dX8_shape_34 ?_
          refine lv_astore_n (lv' := [(2, .ref (ra i)), (0, .ref y), (1, .int (nI i))]) hx hb dX8_shape_35 rfl hl (by decide) rfl (fun ls hl => ?_)
          refine lv_iconst (v := nI 0) hx hb dX8_shape_36 (by decide) ?_
          refine lv_istore_n (lv' := [(3, .int (nI 0)), (2, .ref (ra i)), (0, .ref y), (1, .int (nI i))]) hx hb dX8_shape_37 rfl hl (by decide) rfl (fun ls hl => ?_)
          replace hO := hO.fr hY0 hRw fr
          obtain ⟨m8, f8⟩ := hM.fin0 hY0 (h' := hv3) ⟨hRw.1, hRw.2.1, hRw.2.2.1, faw, fkw, fvw⟩ fr
          have hq8 : qNo (qIx Fi ni) := qIx_no hni (hLi ▸ (hI i (by omega)).2.1 ((bHo_6 (hI i (by omega)).2.2 hoi).elim Or.inl (fun z => Or.inr (Or.inl z))))
          have hY8 := hY
          obtain ⟨ct9, ect9⟩ := qnI_any ct
          obtain ⟨Y9, hY9⟩ : ∃ Y : Int32 → va_E, Y = fun z9 => .inr (8, [.ref ms, .ref mb, .ref (ra 28), .int gr, .int 0, .int ca, .int mv, .ref od, .ref pt, .int z9, .int fau, .ref fi, .ref re, .int cs, .ref rc, .ref rs, .ref so, .ref ot, .ref cn, .ref la, .int ce, .ref ro, .int rn]) := ⟨_, rfl⟩
          have hnd9 := hO.nd hY
          have hnp9 : qNo9 y od pa pt := hO.no hY hO.1 (Or.inl ⟨_, rfl, fun O z => by cases z⟩)
          have hna9 : qNo9 y od pa (ra i) := hO.no hY fai (Or.inr ⟨_, rfl⟩)
          have hnk9 : qNo9 y od pa (rk i) := hO.no hY fki (Or.inl ⟨_, rfl, fun O z => by cases z⟩)
          obtain ⟨hpt9, ⟨O9, hod9⟩, ⟨Q9, hpa9⟩, hpo9, hpi9⟩ := id hO
          have hra9 := fai
          have hsm9 : qNh cy hv3 y od pa Y9 ct9 O9 Q9 = hv3 := qNh_same hnd9 (by rw [hY9]; rw [← ect9]; exact hY) hod9 hpa9
          rw [← hsm9] at hP
          refine (?_ : ∀ (tO : Nat) (H : Heap) (locs : List Loc) (ls : Array Slot) (i9 : Nat) (q9 : Nat → Int32), ni - i9 < tO → lv_has ls 4 [(3, .int (nI i9)), (2, .ref (ra i)), (1, .int (nI i)), (0, .ref y)] → i9 ≤ ni → (∀ j, j < i9 → q9 j = nI j) → qP D N0 (qNh cy hv3 y od pa Y9 ct9 O9 (qU Q9 0 q9)) H → va_S (qA N0) s.heap H locs → W p l e _ s m _ below meth c H locs 0 0 _ (F0 m 38 ls [])) _ _ _ ls 0 (Q9 0) (Nat.lt_succ_self _) (lv_sub hl [0, 1, 3, 2] rfl) (Nat.zero_le _) (fun j hj => absurd hj (Nat.not_lt_zero _)) (by rw [show qU Q9 0 (Q9 0) = Q9 from funext fun z => by unfold qU; split <;> first | rfl | (rename_i z9; rw [z9])]; exact hP) hS
          clear hl hP hS
          intro tO
          induction tO with
          | zero => intro H locs ls i9 q9 htO; exact absurd htO (Nat.not_lt_zero _)
          | succ tO ihlO =>
            intro H locs ls i9 q9 htO hl hi9 hq9 hP hS
            have fy : (qNh cy hv3 y od pa Y9 ct9 O9 (qU Q9 0 q9)) y = some (.inr (8, [.ref ms, .ref mb, .ref (ra 28), .int gr, .int 0, .int ca, .int mv, .ref od, .ref pt, .int (nI ct9), .int fau, .ref fi, .ref re, .int cs, .ref rc, .ref rs, .ref so, .ref ot, .ref cn, .ref la, .int ce, .ref ro, .int rn])) := by rw [qNh_y, hY9]
            have fp : (qNh cy hv3 y od pa Y9 ct9 O9 (qU Q9 0 q9)) (pa 0) = _ := qNh_pa hnd9 (show 0 < 8 by omega)
            have fpt : (qNh cy hv3 y od pa Y9 ct9 O9 (qU Q9 0 q9)) pt = _ := (qNh_o hnp9).trans hpt9
            have fa9 : (qNh cy hv3 y od pa Y9 ct9 O9 (qU Q9 0 q9)) (ra i) = _ := (qNh_o hna9).trans hra9
            rw [qU_at] at fp
            refine lv_iload_n hx hb dX8_shape_38 rfl (lv_at hl 0 rfl) ?_
            refine lv_aload_n hx hb dX8_shape_39 rfl (lv_at hl 1 rfl) ?_
            refine q_get C hP fa9 rfl inX7 3 (by decide) g1143 rfl dX8_shape_40 ?_
            refine lv_icmp_ge (tgt := 61) hx hb dX8_shape_43 (by decide) (fun c43 => ?_) (fun c43 => ?_)
            · replace c43 : ni ≤ i9 := (nI_leI (a := ni) (b := i9) (by omega) (by omega)).mp c43
              refine lv_aload_n hx hb dX8_shape_61 rfl (lv_at hl 3 rfl) ?_
              refine lv_iconst (v := nI 0) hx hb dX8_shape_62 (by decide) ?_
              refine q_put C hP hS fy rfl inX8 tyX8 tyX8_ok nmX8 9 (by decide) g1176 rfl rfl rfl (Nat.le_of_ble_eq_true rfl) dX8_shape_63 (fun H locs hP hS => ?_)
              replace hP : qP D N0 (qs (qNh cy hv3 y od pa Y9 ct9 O9 (qU Q9 0 q9)) y (.inr (8, [.ref ms, .ref mb, .ref (ra 28), .int gr, .int 0, .int ca, .int mv, .ref od, .ref pt, .int (nI 0), .int fau, .ref fi, .ref re, .int cs, .ref rc, .ref rs, .ref so, .ref ot, .ref cn, .ref la, .int ce, .ref ro, .int rn]))) H := hP
              replace hP : qP D N0 (qs (qNh cy hv3 y od pa Y9 ct9 O9 (qU Q9 0 q9)) y (.inr (8, [.ref ms, .ref mb, .ref (ra 28), .int gr, .int 0, .int ca, .int mv, .ref od, .ref pt, .int (nI 0), .int fau, .ref fi, .ref re, .int cs, .ref rc, .ref rs, .ref so, .ref ot, .ref cn, .ref la, .int ce, .ref ro, .int rn]))) H := hP
              rw [show (.inr (8, [.ref ms, .ref mb, .ref (ra 28), .int gr, .int 0, .int ca, .int mv, .ref od, .ref pt, .int (nI 0), .int fau, .ref fi, .ref re, .int cs, .ref rc, .ref rs, .ref so, .ref ot, .ref cn, .ref la, .int ce, .ref ro, .int rn]) : va_E) = Y9 (nI 0) from by rw [hY9], qNh_sy] at hP
              have fy : (qNh cy hv3 y od pa Y9 0 O9 (qU Q9 0 q9)) y = some (.inr (8, [.ref ms, .ref mb, .ref (ra 28), .int gr, .int 0, .int ca, .int mv, .ref od, .ref pt, .int (nI 0), .int fau, .ref fi, .ref re, .int cs, .ref rc, .ref rs, .ref so, .ref ot, .ref cn, .ref la, .int ce, .ref ro, .int rn])) := by rw [qNh_y, hY9]
              have fp : (qNh cy hv3 y od pa Y9 0 O9 (qU Q9 0 q9)) (pa 0) = _ := qNh_pa hnd9 (show 0 < 8 by omega)
              have fpt : (qNh cy hv3 y od pa Y9 0 O9 (qU Q9 0 q9)) pt = _ := (qNh_o hnp9).trans hpt9
              have fa9 : (qNh cy hv3 y od pa Y9 0 O9 (qU Q9 0 q9)) (ra i) = _ := (qNh_o hna9).trans hra9
              refine lv_aload_n hx hb dX8_shape_66 rfl (lv_at hl 3 rfl) ?_
              refine lv_aload_n hx hb dX8_shape_67 rfl (lv_at hl 1 rfl) ?_
              refine lv_iconst (v := nI 0) hx hb dX8_shape_68 (by decide) ?_
              refine lv_aload_n hx hb dX8_shape_69 rfl (lv_at hl 1 rfl) ?_
              refine q_get C hP fa9 rfl inX7 3 (by decide) g1143 rfl dX8_shape_70 ?_
              have ex9 : nI ni = nI (qIx Fi ni).length := by rw [qIx_len]
              refine q_callV (rest := []) C (nodew l D cy N0 hv3 y ms mb (ra 28) od pt fi re rc rs so ot cn la ro gr 0 ca mv fau cs ce rn pa (ra i) (rk i) _ Fi Y9 0 O9 (qU Q9 0 q9) ni hY9 hnd9 hpt9 hra9 fki ⟨hnp9, hna9, hnk9⟩ (by omega) hq8 (fun j hj => by rw [qU_at]; exact hq9 j (by omega))) kX8_node g1371 g1373 rfl gp60 g4 hP hS fy (by first | decide | omega) hl.1 rfl (by decide) (by first | decide | omega) dX8_shape_73 (fun q ce E h' H1 locs1 hE => hE.elim) (fun v hh6 H locs hq hP hS => ?_)
              obtain ⟨rfl, Qn, -, rfl⟩ := hq
              rw [qIx_len, Nat.zero_add] at hP
              have ex : xs_shape gr S (nI i) = (0, nI (thSh (qMk gr) 7 (qIx Fi ni))) := by (unfold xs_shape; rw [if_neg (by simp [ebi]), eci, if_neg (by simp [hoi]), hLi, qIx_sh hni])
              exact q_iret C hP hS ⟨by rw [ex], ⟨_, by rw [ex]; exact (qNh_y).trans (by rw [hY9])⟩, m8.keepO hY8 hO (fun b o hb n1 n2 n3 => (qNh_o ⟨n1, n2, n3⟩).trans hb), ⟨(qNh_o hnp9).trans hpt9, ⟨_, qNh_od hnd9⟩, ⟨Qn, fun d hd => qNh_pa hnd9 hd⟩, hpo9, hpi9⟩, fun b o hb n1 n2 n3 n4 => (qNh_o ⟨n1, n3, n4⟩).trans (f8 b o hb n1 n2)⟩ (by omega) dX8_shape_76
            · replace c43 : ¬ ni ≤ i9 := fun zq => c43 ((nI_leI (a := ni) (b := i9) (by omega) (by omega)).mpr zq)
              refine lv_aload_n hx hb dX8_shape_46 rfl (lv_at hl 3 rfl) ?_
              refine q_get C hP fy rfl inX8 8 (by decide) g1175 rfl dX8_shape_47 ?_
              refine lv_iconst (v := nI 0) hx hb dX8_shape_50 (by decide) ?_
              refine q_aaldA C hP fpt rfl (by omega) (by omega) rfl dX8_shape_51 ?_
              refine lv_iload_n hx hb dX8_shape_52 rfl (lv_at hl 0 rfl) ?_
              refine lv_iload_n hx hb dX8_shape_53 rfl (lv_at hl 0 rfl) ?_
              refine q_iastN C hP hS fp (by omega) (by omega) dX8_shape_54 (fun H locs hP hS => ?_)
              rw [qNh_sp hnd9 (show 0 < 8 by omega), qU_qU9] at hP
              have fy : (qNh cy hv3 y od pa Y9 ct9 O9 (qU Q9 0 (upd q9 i9 (nI i9)))) y = some (.inr (8, [.ref ms, .ref mb, .ref (ra 28), .int gr, .int 0, .int ca, .int mv, .ref od, .ref pt, .int (nI ct9), .int fau, .ref fi, .ref re, .int cs, .ref rc, .ref rs, .ref so, .ref ot, .ref cn, .ref la, .int ce, .ref ro, .int rn])) := by rw [qNh_y, hY9]
              have fp : (qNh cy hv3 y od pa Y9 ct9 O9 (qU Q9 0 (upd q9 i9 (nI i9)))) (pa 0) = _ := qNh_pa hnd9 (show 0 < 8 by omega)
              have fpt : (qNh cy hv3 y od pa Y9 ct9 O9 (qU Q9 0 (upd q9 i9 (nI i9)))) pt = _ := (qNh_o hnp9).trans hpt9
              have fa9 : (qNh cy hv3 y od pa Y9 ct9 O9 (qU Q9 0 (upd q9 i9 (nI i9)))) (ra i) = _ := (qNh_o hna9).trans hra9
              refine lv_iinc (v := nI (i9 + 1)) (lv' := [(3, .int (nI (i9 + 1))), (2, .ref (ra i)), (1, .int (nI i)), (0, .ref y)]) hx hb dX8_shape_55 hl (k := 0) rfl (nI_1 i9) (by decide) rfl (fun ls hl => ?_)
              refine lv_goto (tgt := 38) hx hb dX8_shape_58 (by decide) ?_
              exact ihlO H locs ls (i9 + 1) (upd q9 i9 (nI i9)) (by omega) (lv_sub hl [0, 1, 2, 3] rfl) (by omega) (fun j hj => if z : j = i9 then by (rw [z]; exact upd_at9) else (upd_ne9 z).trans (hq9 j (by omega))) hP hS
        · replace c24 : 1 = 0 := (nI_eq (a := 1) (b := 0) (by omega) (by omega)).mp c24
          exfalso; omega
  · have ebi : bSl p0 = false := bSl_f sl9
    refine lv_iconst (v := nI 1) hx hb dX8_shape_5 (by decide) ?_
    refine q_callV (rest := []) C (c_X8_good0 l D cy N0 h y ms mb (ra 28) od pt fi re rc rs so ot cn la ro gr cd ca mv ct fau cs ce rn (nI 1) hY) kX8_good g1249 g1251 rfl gp41 g4 hP hS hY (by first | decide | omega) hl.1 rfl (by decide) (by first | decide | omega) dX8_shape_6 (fun q ce E h' H1 locs1 hE => hE.elim) (fun v hh7 H locs hq hP hS => ?_)
    obtain ⟨rfl, rfl⟩ := hq
    replace hP : qP D N0 (qs h y (.inr (8, [.ref ms, .ref mb, .ref (ra 28), .int gr, .int (nI 1), .int ca, .int mv, .ref od, .ref pt, .int ct, .int fau, .ref fi, .ref re, .int cs, .ref rc, .ref rs, .ref so, .ref ot, .ref cn, .ref la, .int ce, .ref ro, .int rn]))) H := hP
    obtain ⟨hv4, ehv4⟩ : ∃ z : qH, z = qs h y (.inr (8, [.ref ms, .ref mb, .ref (ra 28), .int gr, .int (nI 1), .int ca, .int mv, .ref od, .ref pt, .int ct, .int fau, .ref fi, .ref re, .int cs, .ref rc, .ref rs, .ref so, .ref ot, .ref cn, .ref la, .int ce, .ref ro, .int rn])) := ⟨_, rfl⟩
    rw [← ehv4] at hP
    have khv4 : ∀ b o, b ≠ y → h b = some o → hv4 b = some o := by rw [ehv4]; exact fun b o nb hb => (qs_ne nb).trans hb
    replace hms := khv4 _ _ (fun q => by subst q; have := hms.symm.trans hY; first | cases this | simp at this) hms
    replace hmb := khv4 _ _ (fun q => by subst q; have := hmb.symm.trans hY; first | cases this | simp at this) hmb
    replace faw := khv4 _ _ (fun q => by have z9 := faw; rw [q] at z9; have := z9.symm.trans hY; first | cases this | simp at this) faw
    replace fkw := khv4 _ _ (fun q => by have z9 := fkw; rw [q] at z9; have := z9.symm.trans hY; first | cases this | simp at this) fkw
    replace fvw := khv4 _ _ (fun q => by have z9 := fvw; rw [q] at z9; have := z9.symm.trans hY; first | cases this | simp at this) fvw
    replace hY : hv4 y = some (.inr (8, [.ref ms, .ref mb, .ref (ra 28), .int gr, .int (nI 1), .int ca, .int mv, .ref od, .ref pt, .int ct, .int fau, .ref fi, .ref re, .int cs, .ref rc, .ref rs, .ref so, .ref ot, .ref cn, .ref la, .int ce, .ref ro, .int rn])) := by rw [ehv4]; exact qs_self
    clear ehv4
    replace fr := fun b o hb n1 n2 => khv4 b o n1 (fr b o hb n1 n2)
    refine lv_if_eq (tgt := 27) hx hb dX8_shape_9 (by decide) (fun c9 => ?_) (fun c9 => ?_)
    · replace c9 : 0 = 0 := (nI_eq (a := 0) (b := 0) (by omega) (by omega)).mp c9
      refine lv_iconst (v := nI 0) hx hb dX8_shape_27 (by decide) ?_
      have ex : xs_shape gr S p0 = (1, 0) := by simp [xs_shape, ebi]
      obtain ⟨m9, f9⟩ := hM.fin0 hY0 (h' := hv4) ⟨hRw.1, hRw.2.1, hRw.2.2.1, faw, fkw, fvw⟩ fr
      exact q_iret C hP hS ⟨by first | (rw [ex]; done) | (rw [ex]; rfl), ⟨_, by rw [ex]; exact hY⟩, m9, hO.fr hY0 hRw fr, fun b o hb n1 n2 _ _ => f9 b o hb n1 n2⟩ (by omega) dX8_shape_28
    · replace c9 : ¬ 0 = 0 := fun zq => c9 ((nI_eq (a := 0) (b := 0) (by omega) (by omega)).mpr zq)
      exfalso; omega
