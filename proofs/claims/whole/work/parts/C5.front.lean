/-- the firsts, at the object's own address of them -/
theorem qSy.first {cy : Nat → ClassId} {h : qH} {y : Nat} {A : Nat → Prop} {o : qYf} {a : qWd} {k : qKd} {fi re rc rs so ot cn la : Nat} {cs ce : Int32} (s : qSy cy h y A o a k) (hy : h y = some (qYo o fi re rc rs so ot cn la cs ce)) : ∃ F, h fi = some (.inl (cy 1, a.2.1, .inr (.inl F))) ∧ (∀ j, j < a.1 → F j = a.2.2.1 j) ∧ a.1 ≤ a.2.1 ∧ a.2.1 ≤ 100000 := by
  obtain ⟨fi2, re2, rc2, rs2, so2, ot2, cn2, la2, F, Rt, Rc, Rs, So, Ot, Cn, La, hY, ⟨h1, -⟩, hg, hk, hz, hd, he, hA, hb⟩ := s
  have e := hY.symm.trans hy
  unfold qYo at e
  simp only [Option.some.injEq, Sum.inr.injEq, Prod.mk.injEq, List.cons.injEq, Value.ref.injEq, Value.int.injEq, true_and, and_true] at e
  obtain ⟨e1, -⟩ := e
  subst e1
  exact ⟨F, h1, fun j hj => (hg j hj).1, hb.1, hb.2.2.1⟩
def xs_front (S : Nat → qSlot) (a : qWd) (p0 : Int32) : Int32 × Int64 := if bSl p0 = false then (1, 0) else if bHo (S p0.toNatClampNeg).1 112 = false then (2, 0) else
  if (S p0.toNatClampNeg).1 = 6 then (if (S p0.toNatClampNeg).2.2.1 = 0 then (3, 0) else (0, a.2.2.1 (S p0.toNatClampNeg).2.2.1)) else
  if (S p0.toNatClampNeg).2.1.length = 0 then (3, 0) else (0, ((S p0.toNatClampNeg).2.1.getD 0 (0, 0)).1)
theorem dX8_front_29 : decode cX8_front 29 = .ok (.aload_n 0, 1) := by decide +kernel
theorem dX8_front_30 : decode cX8_front 30 = .ok (.getfield 9, 3) := by decide +kernel
theorem dX8_front_33 : decode cX8_front 33 = .ok (.iload_n 1, 1) := by decide +kernel
theorem dX8_front_34 : decode cX8_front 34 = .ok (.aaload, 1) := by decide +kernel
theorem dX8_front_35 : decode cX8_front 35 = .ok (.astore_n 2, 1) := by decide +kernel
theorem dX8_front_36 : decode cX8_front 36 = .ok (.aload_n 0, 1) := by decide +kernel
theorem dX8_front_37 : decode cX8_front 37 = .ok (.aload_n 2, 1) := by decide +kernel
theorem dX8_front_38 : decode cX8_front 38 = .ok (.getfield 75, 3) := by decide +kernel
theorem dX8_front_41 : decode cX8_front 41 = .ok (.bipush 6, 2) := by decide +kernel
theorem dX8_front_43 : decode cX8_front 43 = .ok (.if_icmp .ne 18, 3) := by decide +kernel
theorem dX8_front_46 : decode cX8_front 46 = .ok (.aload_n 2, 1) := by decide +kernel
theorem dX8_front_47 : decode cX8_front 47 = .ok (.getfield 81, 3) := by decide +kernel
theorem dX8_front_50 : decode cX8_front 50 = .ok (.ifCond .le 7, 3) := by decide +kernel
theorem dX8_front_53 : decode cX8_front 53 = .ok (.iconst 1, 1) := by decide +kernel
theorem dX8_front_54 : decode cX8_front 54 = .ok (.goto 19, 3) := by decide +kernel
theorem dX8_front_57 : decode cX8_front 57 = .ok (.iconst 0, 1) := by decide +kernel
theorem dX8_front_58 : decode cX8_front 58 = .ok (.goto 15, 3) := by decide +kernel
theorem dX8_front_61 : decode cX8_front 61 = .ok (.aload_n 2, 1) := by decide +kernel
theorem dX8_front_62 : decode cX8_front 62 = .ok (.getfield 78, 3) := by decide +kernel
theorem dX8_front_65 : decode cX8_front 65 = .ok (.ifCond .le 7, 3) := by decide +kernel
theorem dX8_front_68 : decode cX8_front 68 = .ok (.iconst 1, 1) := by decide +kernel
theorem dX8_front_69 : decode cX8_front 69 = .ok (.goto 4, 3) := by decide +kernel
theorem dX8_front_72 : decode cX8_front 72 = .ok (.iconst 0, 1) := by decide +kernel
theorem dX8_front_73 : decode cX8_front 73 = .ok (.iconst 3, 1) := by decide +kernel
theorem dX8_front_74 : decode cX8_front 74 = .ok (.invokevirtual 100, 3) := by decide +kernel
theorem dX8_front_77 : decode cX8_front 77 = .ok (.ifCond .ne 5, 3) := by decide +kernel
theorem dX8_front_80 : decode cX8_front 80 = .ok (.lconst 0, 1) := by decide +kernel
theorem dX8_front_81 : decode cX8_front 81 = .ok (.lreturn, 1) := by decide +kernel
theorem dX8_front_82 : decode cX8_front 82 = .ok (.aload_n 2, 1) := by decide +kernel
theorem dX8_front_83 : decode cX8_front 83 = .ok (.getfield 75, 3) := by decide +kernel
theorem dX8_front_86 : decode cX8_front 86 = .ok (.bipush 6, 2) := by decide +kernel
theorem dX8_front_88 : decode cX8_front 88 = .ok (.if_icmp .ne 15, 3) := by decide +kernel
theorem dX8_front_91 : decode cX8_front 91 = .ok (.aload_n 0, 1) := by decide +kernel
theorem dX8_front_92 : decode cX8_front 92 = .ok (.getfield 32, 3) := by decide +kernel
theorem dX8_front_95 : decode cX8_front 95 = .ok (.aload_n 2, 1) := by decide +kernel
theorem dX8_front_96 : decode cX8_front 96 = .ok (.getfield 81, 3) := by decide +kernel
theorem dX8_front_99 : decode cX8_front 99 = .ok (.laload, 1) := by decide +kernel
theorem dX8_front_100 : decode cX8_front 100 = .ok (.goto 9, 3) := by decide +kernel
theorem dX8_front_103 : decode cX8_front 103 = .ok (.aload_n 2, 1) := by decide +kernel
theorem dX8_front_104 : decode cX8_front 104 = .ok (.getfield 90, 3) := by decide +kernel
theorem dX8_front_107 : decode cX8_front 107 = .ok (.iconst 0, 1) := by decide +kernel
theorem dX8_front_108 : decode cX8_front 108 = .ok (.laload, 1) := by decide +kernel
theorem dX8_front_109 : decode cX8_front 109 = .ok (.lreturn, 1) := by decide +kernel
set_option maxRecDepth 100000 in
set_option maxHeartbeats 4000000 in
theorem w_front (l : Launch) (D : va_G) (cy : Nat → ClassId) (N0 : Nat) (h : qH) (y ms mb mw od pt fi re rc rs so ot cn la ro : Nat) (gr cd ca mv ct fau cs ce rn : Int32) (ra rk rv : Nat → Nat) (S : Nat → qSlot) (pa : Nat → Nat) (A : Nat → Prop) (a : qWd) (k : qKd) (R : Nat → List Int64) (ad : Nat → Nat) (Rn : Nat) (Bd sl d dc : Nat) (dp : Nat → Nat) (F : qWo → Nat → Nat × qWo) (p0 : Int32) (X : Int32 × Int64) (hY : h y = some (.inr (8, [.ref ms, .ref mb, .ref mw, .int gr, .int cd, .int ca, .int mv, .ref od, .ref pt, .int ct, .int fau, .ref fi, .ref re, .int cs, .ref rc, .ref rs, .ref so, .ref ot, .ref cn, .ref la, .int ce, .ref ro, .int rn]))) (hQ : qRF cy h y A ra rk rv pa (ms, mb, mw, od, pt, ro, gr, cd, ca, mv, ct, fau, rn) a k S Rn R ad) (hI : ∀ i, i < 28 → qOk (S i).1 (S i).2.1) (hV : qWv Bd sl Rn dp ((ms, mb, mw, od, pt, ro, gr, cd, ca, mv, ct, fau, rn), a, k)) (hB : Bd ≤ 4000) (hF : qFS l D cy N0 y Bd Rn R ad F d) (hG : qFg Bd Rn F d) (hdc : dc < d) (hSt : ∀ i, i < 24 → (S i).1 = 6 → (S i).2.2.1 < a.1 ∧ dp (S i).2.2.1 ≤ dc) (hX : xs_front S a p0 = X) : qC l D cy N0 yX8_front cX8_front 3 (some .long) 2 60 0 0 [.ref y, .int p0] h (fun v h' => v = some (.long X.2) ∧ qRF cy h' y A ra rk rv pa (oCd (ms, mb, mw, od, pt, ro, gr, cd, ca, mv, ct, fau, rn) X.1) a k S Rn R ad ∧ qFR h h' y od ra rk rv pa A A) (fun E h' => False) := by
  refine q_ofW (by decide) (by exact Nat.le_of_ble_eq_true rfl) ?_
  intro p e s m below meth c ls C hP hl
  have hx := C.1
  have hb := C.2.1
  have hS : va_S (qA N0) s.heap s.heap [] := va_S.rf
  have hl : lv_has ls 3 [(0, .ref y), (1, .int p0)] := hl
  have hM : qMR cy h ms mb mw ra rk rv S := hQ.2.2.1
  have hY0 := hY
  obtain ⟨hms, hmb, hmw, hmd, hrs, kdw, smw, dpw, rww, nw, fw, gw, hRw⟩ := id hM
  subst hmw
  have fr : ∀ b o, h b = some o → b ≠ y → qOf (ra 28) (rk 28) (rv 28) b → h b = some o := fun b o hb _ _ => hb
  have faw := hRw.2.2.2.1
  have fkw := hRw.2.2.2.2.1
  have fvw := hRw.2.2.2.2.2
  unfold qRb at faw
  unfold qJr at fkw fvw
  refine lv_aload_n hx hb dX8_front_0 rfl (lv_at hl 0 rfl) ?_
  refine lv_iload_n hx hb dX8_front_1 rfl (lv_at hl 1 rfl) ?_
  refine q_callS (rest := [.ref y]) C (c_X8_isSlot l D cy N0 h p0) kX8_isSlot g1246 g1247 hP hS (by first | decide | omega) hl.1 rfl (by simp [q_catrf, q_cati, q_catl, q_cata, q_catn]) (by first | decide | omega) dX8_front_2 (fun q ce E h' H1 locs1 hE => hE.elim) (fun v hh1 H locs hq hP hS => ?_)
  obtain ⟨rfl, ⟨rfl, sl9⟩ | ⟨rfl, sl9⟩⟩ := hq
  · obtain ⟨i, hi, rfl⟩ := sl9.of
    have ebi : bSl (nI i) = true := bSl_t sl9
    have eci : (nI i).toNatClampNeg = i := nI_clamp (by omega)
    refine lv_iconst (v := nI 1) hx hb dX8_front_5 (by decide) ?_
    refine q_callV (rest := []) C (c_X8_good1 l D cy N0 h y ms mb (ra 28) od pt fi re rc rs so ot cn la ro gr cd ca mv ct fau cs ce rn (nI 1) hY) kX8_good g1249 g1251 rfl gp41 g4 hP hS hY (by first | decide | omega) hl.1 rfl (by decide) (by first | decide | omega) dX8_front_6 (fun q ce E h' H1 locs1 hE => hE.elim) (fun v hh2 H locs hq hP hS => ?_)
    obtain ⟨rfl, rfl⟩ := hq
    replace hP : qP D N0 (qs h y (.inr (8, [.ref ms, .ref mb, .ref (ra 28), .int gr, .int 0, .int ca, .int mv, .ref od, .ref pt, .int ct, .int fau, .ref fi, .ref re, .int cs, .ref rc, .ref rs, .ref so, .ref ot, .ref cn, .ref la, .int ce, .ref ro, .int rn]))) H := hP
    obtain ⟨hv1, ehv1⟩ : ∃ z : qH, z = qs h y (.inr (8, [.ref ms, .ref mb, .ref (ra 28), .int gr, .int 0, .int ca, .int mv, .ref od, .ref pt, .int ct, .int fau, .ref fi, .ref re, .int cs, .ref rc, .ref rs, .ref so, .ref ot, .ref cn, .ref la, .int ce, .ref ro, .int rn])) := ⟨_, rfl⟩
    rw [← ehv1] at hP
    have khv1 : ∀ b o, b ≠ y → h b = some o → hv1 b = some o := by rw [ehv1]; exact fun b o nb hb => (qs_ne nb).trans hb
    replace hms := khv1 _ _ (fun q => by subst q; have := hms.symm.trans hY; first | cases this | simp at this) hms
    replace hmb := khv1 _ _ (fun q => by subst q; have := hmb.symm.trans hY; first | cases this | simp at this) hmb
    replace faw := khv1 _ _ (fun q => by have z9 := faw; rw [q] at z9; have := z9.symm.trans hY; first | cases this | simp at this) faw
    replace fkw := khv1 _ _ (fun q => by have z9 := fkw; rw [q] at z9; have := z9.symm.trans hY; first | cases this | simp at this) fkw
    replace fvw := khv1 _ _ (fun q => by have z9 := fvw; rw [q] at z9; have := z9.symm.trans hY; first | cases this | simp at this) fvw
    replace hY : hv1 y = some (.inr (8, [.ref ms, .ref mb, .ref (ra 28), .int gr, .int 0, .int ca, .int mv, .ref od, .ref pt, .int ct, .int fau, .ref fi, .ref re, .int cs, .ref rc, .ref rs, .ref so, .ref ot, .ref cn, .ref la, .int ce, .ref ro, .int rn])) := by rw [ehv1]; exact qs_self
    clear ehv1
    replace fr := fun b o hb n1 n2 => khv1 b o n1 (fr b o hb n1 n2)
    refine lv_if_eq (tgt := 27) hx hb dX8_front_9 (by decide) (fun c9 => ?_) (fun c9 => ?_)
    · replace c9 : 1 = 0 := (nI_eq (a := 1) (b := 0) (by omega) (by omega)).mp c9
      exfalso; omega
    · replace c9 : ¬ 1 = 0 := fun zq => c9 ((nI_eq (a := 1) (b := 0) (by omega) (by omega)).mpr zq)
      refine lv_aload_n hx hb dX8_front_12 rfl (lv_at hl 0 rfl) ?_
      refine lv_aload_n hx hb dX8_front_13 rfl (lv_at hl 0 rfl) ?_
      refine lv_iload_n hx hb dX8_front_14 rfl (lv_at hl 1 rfl) ?_
      refine lv_bipush (v := nI 112) hx hb dX8_front_15 (by decide) ?_
      obtain ⟨ni, rwi, Fi, Gi, hRi, hni, hLi, hKi⟩ := hrs i (by omega)
      have api := hRi.apart hRw (hmd.two (i := i) (j := 28) (by omega) (by omega) (by omega))
      replace hRi := hRi.keep2 (fun b o hb ho => fr b o ho (hRi.ney hY0 hb) (hb.elim (fun q => q ▸ api.1) (fun hb => hb.elim (fun q => q ▸ api.2.1) (fun q => q ▸ api.2.2))))
      have fai := hRi.2.2.2.1
      have fki := hRi.2.2.2.2.1
      have fvi := hRi.2.2.2.2.2
      unfold qRb at fai
      unfold qJr at fki fvi
      refine q_callV (rest := [.ref y]) C (c_X8_holds l D cy N0 hv1 y ms ra rk rv i 112 _ _ _ _ _ _ _ _ hY rfl hms ⟨hRi.1, hRi.2.1, hRi.2.2.1, fai, fki, fvi⟩ (by omega)) kX8_holds g1264 g1266 rfl gp42 g4 hP hS hY (by first | decide | omega) hl.1 rfl (by simp [q_catrf, q_cati, q_catl, q_cata, q_catn]) (by first | decide | omega) dX8_front_17 (fun q ce E h' H1 locs1 hE => hE.elim) (fun v hh3 H locs hq hP hS => ?_)
      obtain ⟨rfl, rfl⟩ := hq
      cases hoi : bHo (S i).1 112 with
      | false =>
        refine lv_iconst (v := nI 2) hx hb dX8_front_20 (by decide) ?_
        refine q_callV (rest := []) C (c_X8_good0 l D cy N0 hv1 y ms mb (ra 28) od pt fi re rc rs so ot cn la ro gr 0 ca mv ct fau cs ce rn (nI 2) hY) kX8_good g1249 g1251 rfl gp41 g4 hP hS hY (by first | decide | omega) hl.1 rfl (by decide) (by first | decide | omega) dX8_front_21 (fun q ce E h' H1 locs1 hE => hE.elim) (fun v hh4 H locs hq hP hS => ?_)
        obtain ⟨rfl, rfl⟩ := hq
        replace hP : qP D N0 (qs hv1 y (.inr (8, [.ref ms, .ref mb, .ref (ra 28), .int gr, .int (nI 2), .int ca, .int mv, .ref od, .ref pt, .int ct, .int fau, .ref fi, .ref re, .int cs, .ref rc, .ref rs, .ref so, .ref ot, .ref cn, .ref la, .int ce, .ref ro, .int rn]))) H := hP
        obtain ⟨hv2, ehv2⟩ : ∃ z : qH, z = qs hv1 y (.inr (8, [.ref ms, .ref mb, .ref (ra 28), .int gr, .int (nI 2), .int ca, .int mv, .ref od, .ref pt, .int ct, .int fau, .ref fi, .ref re, .int cs, .ref rc, .ref rs, .ref so, .ref ot, .ref cn, .ref la, .int ce, .ref ro, .int rn])) := ⟨_, rfl⟩
        rw [← ehv2] at hP
        have khv2 : ∀ b o, b ≠ y → hv1 b = some o → hv2 b = some o := by rw [ehv2]; exact fun b o nb hb => (qs_ne nb).trans hb
        replace hms := khv2 _ _ (fun q => by subst q; have := hms.symm.trans hY; first | cases this | simp at this) hms
        replace hmb := khv2 _ _ (fun q => by subst q; have := hmb.symm.trans hY; first | cases this | simp at this) hmb
        replace faw := khv2 _ _ (fun q => by have z9 := faw; rw [q] at z9; have := z9.symm.trans hY; first | cases this | simp at this) faw
        replace fkw := khv2 _ _ (fun q => by have z9 := fkw; rw [q] at z9; have := z9.symm.trans hY; first | cases this | simp at this) fkw
        replace fvw := khv2 _ _ (fun q => by have z9 := fvw; rw [q] at z9; have := z9.symm.trans hY; first | cases this | simp at this) fvw
        replace fai := khv2 _ _ (fun q => by have z9 := fai; rw [q] at z9; have := z9.symm.trans hY; first | cases this | simp at this) fai
        replace fki := khv2 _ _ (fun q => by have z9 := fki; rw [q] at z9; have := z9.symm.trans hY; first | cases this | simp at this) fki
        replace fvi := khv2 _ _ (fun q => by have z9 := fvi; rw [q] at z9; have := z9.symm.trans hY; first | cases this | simp at this) fvi
        replace hY : hv2 y = some (.inr (8, [.ref ms, .ref mb, .ref (ra 28), .int gr, .int (nI 2), .int ca, .int mv, .ref od, .ref pt, .int ct, .int fau, .ref fi, .ref re, .int cs, .ref rc, .ref rs, .ref so, .ref ot, .ref cn, .ref la, .int ce, .ref ro, .int rn])) := by rw [ehv2]; exact qs_self
        clear ehv2
        replace fr := fun b o hb n1 n2 => khv2 b o n1 (fr b o hb n1 n2)
        refine lv_if_ne (tgt := 29) hx hb dX8_front_24 (by decide) (fun c24 => ?_) (fun c24 => ?_)
        · replace c24 : ¬ 0 = 0 := fun zq => c24 ((nI_eq (a := 0) (b := 0) (by omega) (by omega)).mpr zq)
          exfalso; omega
        · replace c24 : 0 = 0 := (nI_eq (a := 0) (b := 0) (by omega) (by omega)).mp c24
          refine lv_lconst (v := 0) hx hb dX8_front_27 (by decide) ?_
          have eX : X = (2, 0) := by rw [← hX]; unfold xs_front; rw [if_neg (by rw [ebi]; decide), eci, if_pos hoi]
          obtain ⟨m8, f8⟩ := hM.fin0 hY0 (h' := hv2) ⟨hRw.1, hRw.2.1, hRw.2.2.1, faw, fkw, fvw⟩ fr
          obtain ⟨q8, r8⟩ := hQ.rowM (o' := oCd (ms, mb, ra 28, od, pt, ro, gr, cd, ca, mv, ct, fau, rn) 2) hY0 hY m8 f8 ⟨rfl, rfl, rfl, rfl, rfl, rfl⟩
          exact q_lret C hP hS ⟨by rw [eX], by rw [eX]; exact q8, r8⟩ (by omega) dX8_front_28
      | true =>
        refine lv_iconst (v := nI 2) hx hb dX8_front_20 (by decide) ?_
        refine q_callV (rest := []) C (c_X8_good1 l D cy N0 hv1 y ms mb (ra 28) od pt fi re rc rs so ot cn la ro gr 0 ca mv ct fau cs ce rn (nI 2) hY) kX8_good g1249 g1251 rfl gp41 g4 hP hS hY (by first | decide | omega) hl.1 rfl (by decide) (by first | decide | omega) dX8_front_21 (fun q ce E h' H1 locs1 hE => hE.elim) (fun v hh5 H locs hq hP hS => ?_)
        obtain ⟨rfl, rfl⟩ := hq
        replace hP : qP D N0 (qs hv1 y (.inr (8, [.ref ms, .ref mb, .ref (ra 28), .int gr, .int 0, .int ca, .int mv, .ref od, .ref pt, .int ct, .int fau, .ref fi, .ref re, .int cs, .ref rc, .ref rs, .ref so, .ref ot, .ref cn, .ref la, .int ce, .ref ro, .int rn]))) H := hP
        obtain ⟨hv3, ehv3⟩ : ∃ z : qH, z = qs hv1 y (.inr (8, [.ref ms, .ref mb, .ref (ra 28), .int gr, .int 0, .int ca, .int mv, .ref od, .ref pt, .int ct, .int fau, .ref fi, .ref re, .int cs, .ref rc, .ref rs, .ref so, .ref ot, .ref cn, .ref la, .int ce, .ref ro, .int rn])) := ⟨_, rfl⟩
        rw [← ehv3] at hP
        have khv3 : ∀ b o, b ≠ y → hv1 b = some o → hv3 b = some o := by rw [ehv3]; exact fun b o nb hb => (qs_ne nb).trans hb
        replace hms := khv3 _ _ (fun q => by subst q; have := hms.symm.trans hY; first | cases this | simp at this) hms
        replace hmb := khv3 _ _ (fun q => by subst q; have := hmb.symm.trans hY; first | cases this | simp at this) hmb
        replace faw := khv3 _ _ (fun q => by have z9 := faw; rw [q] at z9; have := z9.symm.trans hY; first | cases this | simp at this) faw
        replace fkw := khv3 _ _ (fun q => by have z9 := fkw; rw [q] at z9; have := z9.symm.trans hY; first | cases this | simp at this) fkw
        replace fvw := khv3 _ _ (fun q => by have z9 := fvw; rw [q] at z9; have := z9.symm.trans hY; first | cases this | simp at this) fvw
        replace fai := khv3 _ _ (fun q => by have z9 := fai; rw [q] at z9; have := z9.symm.trans hY; first | cases this | simp at this) fai
        replace fki := khv3 _ _ (fun q => by have z9 := fki; rw [q] at z9; have := z9.symm.trans hY; first | cases this | simp at this) fki
        replace fvi := khv3 _ _ (fun q => by have z9 := fvi; rw [q] at z9; have := z9.symm.trans hY; first | cases this | simp at this) fvi
        replace hY : hv3 y = some (.inr (8, [.ref ms, .ref mb, .ref (ra 28), .int gr, .int 0, .int ca, .int mv, .ref od, .ref pt, .int ct, .int fau, .ref fi, .ref re, .int cs, .ref rc, .ref rs, .ref so, .ref ot, .ref cn, .ref la, .int ce, .ref ro, .int rn])) := by rw [ehv3]; exact qs_self
        clear ehv3
        replace fr := fun b o hb n1 n2 => khv3 b o n1 (fr b o hb n1 n2)
        refine lv_if_ne (tgt := 29) hx hb dX8_front_24 (by decide) (fun c24 => ?_) (fun c24 => ?_)
        · replace c24 : ¬ 1 = 0 := fun zq => c24 ((nI_eq (a := 1) (b := 0) (by omega) (by omega)).mpr zq)
          refine lv_aload_n hx hb dX8_front_29 rfl (lv_at hl 0 rfl) ?_
          refine q_get C hP hY rfl inX8 0 (by decide) g1167 rfl dX8_front_30 ?_
          refine lv_iload_n hx hb dX8_front_33 rfl (lv_at hl 1 rfl) ?_
          refine q_aaldR C hP hms rfl (by omega) (by omega) rfl dX8_front_34 ?_
          refine lv_astore_n (lv' := [(2, .ref (ra i)), (0, .ref y), (1, .int (nI i))]) hx hb dX8_front_35 rfl hl (by decide) rfl (fun ls hl => ?_)
          refine lv_aload_n hx hb dX8_front_36 rfl (lv_at hl 1 rfl) ?_
          refine lv_aload_n hx hb dX8_front_37 rfl (lv_at hl 0 rfl) ?_
          refine q_get C hP fai rfl inX7 2 (by decide) g1142 rfl dX8_front_38 ?_
          refine lv_bipush (v := 6) hx hb dX8_front_41 (by decide) ?_
          refine lv_icmp_ne (tgt := 61) hx hb dX8_front_43 (by decide) (fun c43 => ?_) (fun c43 => ?_)
          · refine lv_aload_n hx hb dX8_front_61 rfl (lv_at hl 0 rfl) ?_
            refine q_get C hP fai rfl inX7 3 (by decide) g1143 rfl dX8_front_62 ?_
            refine lv_if_le (tgt := 72) hx hb dX8_front_65 (by decide) (fun c65 => ?_) (fun c65 => ?_)
            · replace c65 : ni ≤ 0 := (nI_leI (a := ni) (b := 0) (by omega) (by omega)).mp c65
              refine lv_iconst (v := nI 0) hx hb dX8_front_72 (by decide) ?_
              refine lv_iconst (v := nI 3) hx hb dX8_front_73 (by decide) ?_
              refine q_callV (rest := []) C (c_X8_good0 l D cy N0 hv3 y ms mb (ra 28) od pt fi re rc rs so ot cn la ro gr 0 ca mv ct fau cs ce rn (nI 3) hY) kX8_good g1249 g1251 rfl gp41 g4 hP hS hY (by first | decide | omega) hl.1 rfl (by decide) (by first | decide | omega) dX8_front_74 (fun q ce E h' H1 locs1 hE => hE.elim) (fun v hh6 H locs hq hP hS => ?_)
              obtain ⟨rfl, rfl⟩ := hq
              replace hP : qP D N0 (qs hv3 y (.inr (8, [.ref ms, .ref mb, .ref (ra 28), .int gr, .int (nI 3), .int ca, .int mv, .ref od, .ref pt, .int ct, .int fau, .ref fi, .ref re, .int cs, .ref rc, .ref rs, .ref so, .ref ot, .ref cn, .ref la, .int ce, .ref ro, .int rn]))) H := hP
              obtain ⟨hv4, ehv4⟩ : ∃ z : qH, z = qs hv3 y (.inr (8, [.ref ms, .ref mb, .ref (ra 28), .int gr, .int (nI 3), .int ca, .int mv, .ref od, .ref pt, .int ct, .int fau, .ref fi, .ref re, .int cs, .ref rc, .ref rs, .ref so, .ref ot, .ref cn, .ref la, .int ce, .ref ro, .int rn])) := ⟨_, rfl⟩
              rw [← ehv4] at hP
              have khv4 : ∀ b o, b ≠ y → hv3 b = some o → hv4 b = some o := by rw [ehv4]; exact fun b o nb hb => (qs_ne nb).trans hb
              replace hms := khv4 _ _ (fun q => by subst q; have := hms.symm.trans hY; first | cases this | simp at this) hms
              replace hmb := khv4 _ _ (fun q => by subst q; have := hmb.symm.trans hY; first | cases this | simp at this) hmb
              replace faw := khv4 _ _ (fun q => by have z9 := faw; rw [q] at z9; have := z9.symm.trans hY; first | cases this | simp at this) faw
              replace fkw := khv4 _ _ (fun q => by have z9 := fkw; rw [q] at z9; have := z9.symm.trans hY; first | cases this | simp at this) fkw
              replace fvw := khv4 _ _ (fun q => by have z9 := fvw; rw [q] at z9; have := z9.symm.trans hY; first | cases this | simp at this) fvw
              replace fai := khv4 _ _ (fun q => by have z9 := fai; rw [q] at z9; have := z9.symm.trans hY; first | cases this | simp at this) fai
              replace fki := khv4 _ _ (fun q => by have z9 := fki; rw [q] at z9; have := z9.symm.trans hY; first | cases this | simp at this) fki
              replace fvi := khv4 _ _ (fun q => by have z9 := fvi; rw [q] at z9; have := z9.symm.trans hY; first | cases this | simp at this) fvi
              replace hY : hv4 y = some (.inr (8, [.ref ms, .ref mb, .ref (ra 28), .int gr, .int (nI 3), .int ca, .int mv, .ref od, .ref pt, .int ct, .int fau, .ref fi, .ref re, .int cs, .ref rc, .ref rs, .ref so, .ref ot, .ref cn, .ref la, .int ce, .ref ro, .int rn])) := by rw [ehv4]; exact qs_self
              clear ehv4
              replace fr := fun b o hb n1 n2 => khv4 b o n1 (fr b o hb n1 n2)
              refine lv_if_ne (tgt := 82) hx hb dX8_front_77 (by decide) (fun c77 => ?_) (fun c77 => ?_)
              · replace c77 : ¬ 0 = 0 := fun zq => c77 ((nI_eq (a := 0) (b := 0) (by omega) (by omega)).mpr zq)
                exfalso; omega
              · replace c77 : 0 = 0 := (nI_eq (a := 0) (b := 0) (by omega) (by omega)).mp c77
                refine lv_lconst (v := 0) hx hb dX8_front_80 (by decide) ?_
                have eX : X = (3, 0) := by rw [← hX]; unfold xs_front; rw [if_neg (by rw [ebi]; decide), eci, if_neg (by rw [hoi]; decide), if_neg c43, hLi, if_pos (by rw [qLs_len]; omega)]
                obtain ⟨m8, f8⟩ := hM.fin0 hY0 (h' := hv4) ⟨hRw.1, hRw.2.1, hRw.2.2.1, faw, fkw, fvw⟩ fr
                obtain ⟨q8, r8⟩ := hQ.rowM (o' := oCd (ms, mb, ra 28, od, pt, ro, gr, cd, ca, mv, ct, fau, rn) 3) hY0 hY m8 f8 ⟨rfl, rfl, rfl, rfl, rfl, rfl⟩
                exact q_lret C hP hS ⟨by rw [eX], by rw [eX]; exact q8, r8⟩ (by omega) dX8_front_81
            · replace c65 : ¬ ni ≤ 0 := fun zq => c65 ((nI_leI (a := ni) (b := 0) (by omega) (by omega)).mpr zq)
              refine lv_iconst (v := nI 1) hx hb dX8_front_68 (by decide) ?_
              refine lv_goto (tgt := 73) hx hb dX8_front_69 (by decide) ?_
              refine lv_iconst (v := nI 3) hx hb dX8_front_73 (by decide) ?_
              refine q_callV (rest := []) C (c_X8_good1 l D cy N0 hv3 y ms mb (ra 28) od pt fi re rc rs so ot cn la ro gr 0 ca mv ct fau cs ce rn (nI 3) hY) kX8_good g1249 g1251 rfl gp41 g4 hP hS hY (by first | decide | omega) hl.1 rfl (by decide) (by first | decide | omega) dX8_front_74 (fun q ce E h' H1 locs1 hE => hE.elim) (fun v hh7 H locs hq hP hS => ?_)
              obtain ⟨rfl, rfl⟩ := hq
              replace hP : qP D N0 (qs hv3 y (.inr (8, [.ref ms, .ref mb, .ref (ra 28), .int gr, .int 0, .int ca, .int mv, .ref od, .ref pt, .int ct, .int fau, .ref fi, .ref re, .int cs, .ref rc, .ref rs, .ref so, .ref ot, .ref cn, .ref la, .int ce, .ref ro, .int rn]))) H := hP
              obtain ⟨hv5, ehv5⟩ : ∃ z : qH, z = qs hv3 y (.inr (8, [.ref ms, .ref mb, .ref (ra 28), .int gr, .int 0, .int ca, .int mv, .ref od, .ref pt, .int ct, .int fau, .ref fi, .ref re, .int cs, .ref rc, .ref rs, .ref so, .ref ot, .ref cn, .ref la, .int ce, .ref ro, .int rn])) := ⟨_, rfl⟩
              rw [← ehv5] at hP
              have khv5 : ∀ b o, b ≠ y → hv3 b = some o → hv5 b = some o := by rw [ehv5]; exact fun b o nb hb => (qs_ne nb).trans hb
              replace hms := khv5 _ _ (fun q => by subst q; have := hms.symm.trans hY; first | cases this | simp at this) hms
              replace hmb := khv5 _ _ (fun q => by subst q; have := hmb.symm.trans hY; first | cases this | simp at this) hmb
              replace faw := khv5 _ _ (fun q => by have z9 := faw; rw [q] at z9; have := z9.symm.trans hY; first | cases this | simp at this) faw
              replace fkw := khv5 _ _ (fun q => by have z9 := fkw; rw [q] at z9; have := z9.symm.trans hY; first | cases this | simp at this) fkw
              replace fvw := khv5 _ _ (fun q => by have z9 := fvw; rw [q] at z9; have := z9.symm.trans hY; first | cases this | simp at this) fvw
              replace fai := khv5 _ _ (fun q => by have z9 := fai; rw [q] at z9; have := z9.symm.trans hY; first | cases this | simp at this) fai
              replace fki := khv5 _ _ (fun q => by have z9 := fki; rw [q] at z9; have := z9.symm.trans hY; first | cases this | simp at this) fki
              replace fvi := khv5 _ _ (fun q => by have z9 := fvi; rw [q] at z9; have := z9.symm.trans hY; first | cases this | simp at this) fvi
              replace hY : hv5 y = some (.inr (8, [.ref ms, .ref mb, .ref (ra 28), .int gr, .int 0, .int ca, .int mv, .ref od, .ref pt, .int ct, .int fau, .ref fi, .ref re, .int cs, .ref rc, .ref rs, .ref so, .ref ot, .ref cn, .ref la, .int ce, .ref ro, .int rn])) := by rw [ehv5]; exact qs_self
              clear ehv5
              replace fr := fun b o hb n1 n2 => khv5 b o n1 (fr b o hb n1 n2)
              refine lv_if_ne (tgt := 82) hx hb dX8_front_77 (by decide) (fun c77 => ?_) (fun c77 => ?_)
              · replace c77 : ¬ 1 = 0 := fun zq => c77 ((nI_eq (a := 1) (b := 0) (by omega) (by omega)).mpr zq)
                refine lv_aload_n hx hb dX8_front_82 rfl (lv_at hl 0 rfl) ?_
                refine q_get C hP fai rfl inX7 2 (by decide) g1142 rfl dX8_front_83 ?_
                refine lv_bipush (v := 6) hx hb dX8_front_86 (by decide) ?_
                refine lv_icmp_ne (tgt := 103) hx hb dX8_front_88 (by decide) (fun _ => ?_) (fun c => absurd c c43)
                refine lv_aload_n hx hb dX8_front_103 rfl (lv_at hl 0 rfl) ?_
                refine q_get C hP fai rfl inX7 0 (by decide) g1138 rfl dX8_front_104 ?_
                refine lv_iconst (v := nI 0) hx hb dX8_front_107 (by decide) ?_
                refine q_laldN C hP fki (by omega) (by omega) dX8_front_108 ?_
                have eX : X = (0, Fi 0) := by rw [← hX]; unfold xs_front; rw [if_neg (by rw [ebi]; decide), eci, if_neg (by rw [hoi]; decide), if_neg c43, hLi, if_neg (by rw [qLs_len]; omega), List.getD_eq_getElem?_getD, qLs_get2 (by omega)]; rfl
                obtain ⟨m8, f8⟩ := hM.fin0 hY0 (h' := hv5) ⟨hRw.1, hRw.2.1, hRw.2.2.1, faw, fkw, fvw⟩ fr
                obtain ⟨q8, r8⟩ := hQ.rowM (o' := oCd (ms, mb, ra 28, od, pt, ro, gr, cd, ca, mv, ct, fau, rn) 0) hY0 hY m8 f8 ⟨rfl, rfl, rfl, rfl, rfl, rfl⟩
                exact q_lret C hP hS ⟨by rw [eX], by rw [eX]; exact q8, r8⟩ (by omega) dX8_front_109
              · replace c77 : 1 = 0 := (nI_eq (a := 1) (b := 0) (by omega) (by omega)).mp c77
                exfalso; omega
          · have hs8 := hSt i (by omega) c43
            have hLn := (hV.L hB).2
            refine lv_aload_n hx hb dX8_front_46 rfl (lv_at hl 0 rfl) ?_
            refine q_get C hP fai rfl inX7 4 (by decide) g1144 rfl dX8_front_47 ?_
            refine lv_if_le (tgt := 57) hx hb dX8_front_50 (by decide) (fun c50 => ?_) (fun c50 => ?_)
            · replace c50 : ((S i).2.2.1) ≤ 0 := (nI_leI (a := (S i).2.2.1) (b := 0) (by omega) (by omega)).mp c50
              refine lv_iconst (v := nI 0) hx hb dX8_front_57 (by decide) ?_
              refine lv_goto (tgt := 73) hx hb dX8_front_58 (by decide) ?_
              refine lv_iconst (v := nI 3) hx hb dX8_front_73 (by decide) ?_
              refine q_callV (rest := []) C (c_X8_good0 l D cy N0 hv3 y ms mb (ra 28) od pt fi re rc rs so ot cn la ro gr 0 ca mv ct fau cs ce rn (nI 3) hY) kX8_good g1249 g1251 rfl gp41 g4 hP hS hY (by first | decide | omega) hl.1 rfl (by decide) (by first | decide | omega) dX8_front_74 (fun q ce E h' H1 locs1 hE => hE.elim) (fun v hh8 H locs hq hP hS => ?_)
              obtain ⟨rfl, rfl⟩ := hq
              replace hP : qP D N0 (qs hv3 y (.inr (8, [.ref ms, .ref mb, .ref (ra 28), .int gr, .int (nI 3), .int ca, .int mv, .ref od, .ref pt, .int ct, .int fau, .ref fi, .ref re, .int cs, .ref rc, .ref rs, .ref so, .ref ot, .ref cn, .ref la, .int ce, .ref ro, .int rn]))) H := hP
              obtain ⟨hv6, ehv6⟩ : ∃ z : qH, z = qs hv3 y (.inr (8, [.ref ms, .ref mb, .ref (ra 28), .int gr, .int (nI 3), .int ca, .int mv, .ref od, .ref pt, .int ct, .int fau, .ref fi, .ref re, .int cs, .ref rc, .ref rs, .ref so, .ref ot, .ref cn, .ref la, .int ce, .ref ro, .int rn])) := ⟨_, rfl⟩
              rw [← ehv6] at hP
              have khv6 : ∀ b o, b ≠ y → hv3 b = some o → hv6 b = some o := by rw [ehv6]; exact fun b o nb hb => (qs_ne nb).trans hb
              replace hms := khv6 _ _ (fun q => by subst q; have := hms.symm.trans hY; first | cases this | simp at this) hms
              replace hmb := khv6 _ _ (fun q => by subst q; have := hmb.symm.trans hY; first | cases this | simp at this) hmb
              replace faw := khv6 _ _ (fun q => by have z9 := faw; rw [q] at z9; have := z9.symm.trans hY; first | cases this | simp at this) faw
              replace fkw := khv6 _ _ (fun q => by have z9 := fkw; rw [q] at z9; have := z9.symm.trans hY; first | cases this | simp at this) fkw
              replace fvw := khv6 _ _ (fun q => by have z9 := fvw; rw [q] at z9; have := z9.symm.trans hY; first | cases this | simp at this) fvw
              replace fai := khv6 _ _ (fun q => by have z9 := fai; rw [q] at z9; have := z9.symm.trans hY; first | cases this | simp at this) fai
              replace fki := khv6 _ _ (fun q => by have z9 := fki; rw [q] at z9; have := z9.symm.trans hY; first | cases this | simp at this) fki
              replace fvi := khv6 _ _ (fun q => by have z9 := fvi; rw [q] at z9; have := z9.symm.trans hY; first | cases this | simp at this) fvi
              replace hY : hv6 y = some (.inr (8, [.ref ms, .ref mb, .ref (ra 28), .int gr, .int (nI 3), .int ca, .int mv, .ref od, .ref pt, .int ct, .int fau, .ref fi, .ref re, .int cs, .ref rc, .ref rs, .ref so, .ref ot, .ref cn, .ref la, .int ce, .ref ro, .int rn])) := by rw [ehv6]; exact qs_self
              clear ehv6
              replace fr := fun b o hb n1 n2 => khv6 b o n1 (fr b o hb n1 n2)
              refine lv_if_ne (tgt := 82) hx hb dX8_front_77 (by decide) (fun c77 => ?_) (fun c77 => ?_)
              · replace c77 : ¬ 0 = 0 := fun zq => c77 ((nI_eq (a := 0) (b := 0) (by omega) (by omega)).mpr zq)
                exfalso; omega
              · replace c77 : 0 = 0 := (nI_eq (a := 0) (b := 0) (by omega) (by omega)).mp c77
                refine lv_lconst (v := 0) hx hb dX8_front_80 (by decide) ?_
                have eX : X = (3, 0) := by rw [← hX]; unfold xs_front; rw [if_neg (by rw [ebi]; decide), eci, if_neg (by rw [hoi]; decide), if_pos c43, if_pos (by omega)]
                obtain ⟨m8, f8⟩ := hM.fin0 hY0 (h' := hv6) ⟨hRw.1, hRw.2.1, hRw.2.2.1, faw, fkw, fvw⟩ fr
                obtain ⟨q8, r8⟩ := hQ.rowM (o' := oCd (ms, mb, ra 28, od, pt, ro, gr, cd, ca, mv, ct, fau, rn) 3) hY0 hY m8 f8 ⟨rfl, rfl, rfl, rfl, rfl, rfl⟩
                exact q_lret C hP hS ⟨by rw [eX], by rw [eX]; exact q8, r8⟩ (by omega) dX8_front_81
            · replace c50 : ¬ ((S i).2.2.1) ≤ 0 := fun zq => c50 ((nI_leI (a := (S i).2.2.1) (b := 0) (by omega) (by omega)).mpr zq)
              refine lv_iconst (v := nI 1) hx hb dX8_front_53 (by decide) ?_
              refine lv_goto (tgt := 73) hx hb dX8_front_54 (by decide) ?_
              refine lv_iconst (v := nI 3) hx hb dX8_front_73 (by decide) ?_
              refine q_callV (rest := []) C (c_X8_good1 l D cy N0 hv3 y ms mb (ra 28) od pt fi re rc rs so ot cn la ro gr 0 ca mv ct fau cs ce rn (nI 3) hY) kX8_good g1249 g1251 rfl gp41 g4 hP hS hY (by first | decide | omega) hl.1 rfl (by decide) (by first | decide | omega) dX8_front_74 (fun q ce E h' H1 locs1 hE => hE.elim) (fun v hh9 H locs hq hP hS => ?_)
              obtain ⟨rfl, rfl⟩ := hq
              replace hP : qP D N0 (qs hv3 y (.inr (8, [.ref ms, .ref mb, .ref (ra 28), .int gr, .int 0, .int ca, .int mv, .ref od, .ref pt, .int ct, .int fau, .ref fi, .ref re, .int cs, .ref rc, .ref rs, .ref so, .ref ot, .ref cn, .ref la, .int ce, .ref ro, .int rn]))) H := hP
              obtain ⟨hv7, ehv7⟩ : ∃ z : qH, z = qs hv3 y (.inr (8, [.ref ms, .ref mb, .ref (ra 28), .int gr, .int 0, .int ca, .int mv, .ref od, .ref pt, .int ct, .int fau, .ref fi, .ref re, .int cs, .ref rc, .ref rs, .ref so, .ref ot, .ref cn, .ref la, .int ce, .ref ro, .int rn])) := ⟨_, rfl⟩
              rw [← ehv7] at hP
              have khv7 : ∀ b o, b ≠ y → hv3 b = some o → hv7 b = some o := by rw [ehv7]; exact fun b o nb hb => (qs_ne nb).trans hb
              replace hms := khv7 _ _ (fun q => by subst q; have := hms.symm.trans hY; first | cases this | simp at this) hms
              replace hmb := khv7 _ _ (fun q => by subst q; have := hmb.symm.trans hY; first | cases this | simp at this) hmb
              replace faw := khv7 _ _ (fun q => by have z9 := faw; rw [q] at z9; have := z9.symm.trans hY; first | cases this | simp at this) faw
              replace fkw := khv7 _ _ (fun q => by have z9 := fkw; rw [q] at z9; have := z9.symm.trans hY; first | cases this | simp at this) fkw
              replace fvw := khv7 _ _ (fun q => by have z9 := fvw; rw [q] at z9; have := z9.symm.trans hY; first | cases this | simp at this) fvw
              replace fai := khv7 _ _ (fun q => by have z9 := fai; rw [q] at z9; have := z9.symm.trans hY; first | cases this | simp at this) fai
              replace fki := khv7 _ _ (fun q => by have z9 := fki; rw [q] at z9; have := z9.symm.trans hY; first | cases this | simp at this) fki
              replace fvi := khv7 _ _ (fun q => by have z9 := fvi; rw [q] at z9; have := z9.symm.trans hY; first | cases this | simp at this) fvi
              replace hY : hv7 y = some (.inr (8, [.ref ms, .ref mb, .ref (ra 28), .int gr, .int 0, .int ca, .int mv, .ref od, .ref pt, .int ct, .int fau, .ref fi, .ref re, .int cs, .ref rc, .ref rs, .ref so, .ref ot, .ref cn, .ref la, .int ce, .ref ro, .int rn])) := by rw [ehv7]; exact qs_self
              clear ehv7
              replace fr := fun b o hb n1 n2 => khv7 b o n1 (fr b o hb n1 n2)
              refine lv_if_ne (tgt := 82) hx hb dX8_front_77 (by decide) (fun c77 => ?_) (fun c77 => ?_)
              · replace c77 : ¬ 1 = 0 := fun zq => c77 ((nI_eq (a := 1) (b := 0) (by omega) (by omega)).mpr zq)
                refine lv_aload_n hx hb dX8_front_82 rfl (lv_at hl 0 rfl) ?_
                refine q_get C hP fai rfl inX7 2 (by decide) g1142 rfl dX8_front_83 ?_
                refine lv_bipush (v := 6) hx hb dX8_front_86 (by decide) ?_
                refine lv_icmp_ne (tgt := 103) hx hb dX8_front_88 (by decide) (fun c => absurd c43 c) (fun _ => ?_)
                obtain ⟨m8, f8⟩ := hM.fin0 hY0 (h' := hv7) ⟨hRw.1, hRw.2.1, hRw.2.2.1, faw, fkw, fvw⟩ fr
                obtain ⟨q8, r8⟩ := hQ.rowM (o' := oCd (ms, mb, ra 28, od, pt, ro, gr, cd, ca, mv, ct, fau, rn) 0) hY0 hY m8 f8 ⟨rfl, rfl, rfl, rfl, rfl, rfl⟩
                obtain ⟨Ff, hff, hfj, hfb⟩ := q8.1.first hY
                refine lv_aload_n hx hb dX8_front_91 rfl (lv_at hl 1 rfl) ?_
                refine q_get C hP hY rfl inX8 11 (by decide) g1178 rfl dX8_front_92 ?_
                refine lv_aload_n hx hb dX8_front_95 rfl (lv_at hl 0 rfl) ?_
                refine q_get C hP fai rfl inX7 4 (by decide) g1144 rfl dX8_front_96 ?_
                refine q_laldN C hP hff (by omega) (by omega) dX8_front_99 ?_
                rw [hfj ((S i).2.2.1) hs8.1]
                refine lv_goto (tgt := 109) hx hb dX8_front_100 (by decide) ?_
                have eX : X = (0, a.2.2.1 (S i).2.2.1) := by rw [← hX]; unfold xs_front; rw [if_neg (by rw [ebi]; decide), eci, if_neg (by rw [hoi]; decide), if_pos c43, if_neg (by omega)]
                exact q_lret C hP hS ⟨by rw [eX], by rw [eX]; exact q8, r8⟩ (by omega) dX8_front_109
              · replace c77 : 1 = 0 := (nI_eq (a := 1) (b := 0) (by omega) (by omega)).mp c77
                exfalso; omega
        · replace c24 : 1 = 0 := (nI_eq (a := 1) (b := 0) (by omega) (by omega)).mp c24
          exfalso; omega
  · have ebi : bSl p0 = false := bSl_f sl9
    refine lv_iconst (v := nI 1) hx hb dX8_front_5 (by decide) ?_
    refine q_callV (rest := []) C (c_X8_good0 l D cy N0 h y ms mb (ra 28) od pt fi re rc rs so ot cn la ro gr cd ca mv ct fau cs ce rn (nI 1) hY) kX8_good g1249 g1251 rfl gp41 g4 hP hS hY (by first | decide | omega) hl.1 rfl (by decide) (by first | decide | omega) dX8_front_6 (fun q ce E h' H1 locs1 hE => hE.elim) (fun v hh10 H locs hq hP hS => ?_)
    obtain ⟨rfl, rfl⟩ := hq
    replace hP : qP D N0 (qs h y (.inr (8, [.ref ms, .ref mb, .ref (ra 28), .int gr, .int (nI 1), .int ca, .int mv, .ref od, .ref pt, .int ct, .int fau, .ref fi, .ref re, .int cs, .ref rc, .ref rs, .ref so, .ref ot, .ref cn, .ref la, .int ce, .ref ro, .int rn]))) H := hP
    obtain ⟨hv8, ehv8⟩ : ∃ z : qH, z = qs h y (.inr (8, [.ref ms, .ref mb, .ref (ra 28), .int gr, .int (nI 1), .int ca, .int mv, .ref od, .ref pt, .int ct, .int fau, .ref fi, .ref re, .int cs, .ref rc, .ref rs, .ref so, .ref ot, .ref cn, .ref la, .int ce, .ref ro, .int rn])) := ⟨_, rfl⟩
    rw [← ehv8] at hP
    have khv8 : ∀ b o, b ≠ y → h b = some o → hv8 b = some o := by rw [ehv8]; exact fun b o nb hb => (qs_ne nb).trans hb
    replace hms := khv8 _ _ (fun q => by subst q; have := hms.symm.trans hY; first | cases this | simp at this) hms
    replace hmb := khv8 _ _ (fun q => by subst q; have := hmb.symm.trans hY; first | cases this | simp at this) hmb
    replace faw := khv8 _ _ (fun q => by have z9 := faw; rw [q] at z9; have := z9.symm.trans hY; first | cases this | simp at this) faw
    replace fkw := khv8 _ _ (fun q => by have z9 := fkw; rw [q] at z9; have := z9.symm.trans hY; first | cases this | simp at this) fkw
    replace fvw := khv8 _ _ (fun q => by have z9 := fvw; rw [q] at z9; have := z9.symm.trans hY; first | cases this | simp at this) fvw
    replace hY : hv8 y = some (.inr (8, [.ref ms, .ref mb, .ref (ra 28), .int gr, .int (nI 1), .int ca, .int mv, .ref od, .ref pt, .int ct, .int fau, .ref fi, .ref re, .int cs, .ref rc, .ref rs, .ref so, .ref ot, .ref cn, .ref la, .int ce, .ref ro, .int rn])) := by rw [ehv8]; exact qs_self
    clear ehv8
    replace fr := fun b o hb n1 n2 => khv8 b o n1 (fr b o hb n1 n2)
    refine lv_if_eq (tgt := 27) hx hb dX8_front_9 (by decide) (fun c9 => ?_) (fun c9 => ?_)
    · replace c9 : 0 = 0 := (nI_eq (a := 0) (b := 0) (by omega) (by omega)).mp c9
      refine lv_lconst (v := 0) hx hb dX8_front_27 (by decide) ?_
      have eX : X = (1, 0) := by rw [← hX]; unfold xs_front; rw [if_pos ebi]
      obtain ⟨m8, f8⟩ := hM.fin0 hY0 (h' := hv8) ⟨hRw.1, hRw.2.1, hRw.2.2.1, faw, fkw, fvw⟩ fr
      obtain ⟨q8, r8⟩ := hQ.rowM (o' := oCd (ms, mb, ra 28, od, pt, ro, gr, cd, ca, mv, ct, fau, rn) 1) hY0 hY m8 f8 ⟨rfl, rfl, rfl, rfl, rfl, rfl⟩
      exact q_lret C hP hS ⟨by rw [eX], by rw [eX]; exact q8, r8⟩ (by omega) dX8_front_28
    · replace c9 : ¬ 0 = 0 := fun zq => c9 ((nI_eq (a := 0) (b := 0) (by omega) (by omega)).mpr zq)
      exfalso; omega
