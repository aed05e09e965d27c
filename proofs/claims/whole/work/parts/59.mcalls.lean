def xs_size (S : Nat → qSlot) (p0 : Int32) : Int32 × Int32 := if bSl p0 = false then (1, 0) else if bHo (S p0.toNatClampNeg).1 63 = false then (2, 0) else (0, nI (S p0.toNatClampNeg).2.1.length)
def xs_kind (S : Nat → qSlot) (p0 : Int32) : Int32 × Int32 := if bSl p0 = false then (1, 0) else (0, (S p0.toNatClampNeg).1)
def xs_add (gr : Int32) (S : Nat → qSlot) (p0 p1 : Int32) (v : Int64) : Int32 × (Nat → qSlot) × Int32 := if bSl p0 = false ∨ bSl p1 = false then (1, S, 0) else if bHo (S p1.toNatClampNeg).1 53 = false then (2, S, 0) else
  if 1000 < (xPut (S p1.toNatClampNeg).1 (decide (¬ (S p1.toNatClampNeg).1 = 2)) (S p1.toNatClampNeg).2.1 v 0).length ∨ (16 < xAl gr (xPut (S p1.toNatClampNeg).1 (decide (¬ (S p1.toNatClampNeg).1 = 2)) (S p1.toNatClampNeg).2.1 v 0) v ∧ ((S p1.toNatClampNeg).1 = 1 ∨ (S p1.toNatClampNeg).1 = 2)) then (3, S, 0) else
  (0, qU S p0.toNatClampNeg ((S p1.toNatClampNeg).1, xPut (S p1.toNatClampNeg).1 (decide (¬ (S p1.toNatClampNeg).1 = 2)) (S p1.toNatClampNeg).2.1 v 0, (S p1.toNatClampNeg).2.2), nI (xPut (S p1.toNatClampNeg).1 (decide (¬ (S p1.toNatClampNeg).1 = 2)) (S p1.toNatClampNeg).2.1 v 0).length)
theorem dX8_size_29 : decode cX8_size 29 = .ok (.aload_n 0, 1) := by decide +kernel
theorem dX8_size_30 : decode cX8_size 30 = .ok (.getfield 9, 3) := by decide +kernel
theorem dX8_size_33 : decode cX8_size 33 = .ok (.iload_n 1, 1) := by decide +kernel
theorem dX8_size_34 : decode cX8_size 34 = .ok (.aaload, 1) := by decide +kernel
theorem dX8_size_35 : decode cX8_size 35 = .ok (.getfield 78, 3) := by decide +kernel
theorem dX8_size_38 : decode cX8_size 38 = .ok (.ireturn, 1) := by decide +kernel
set_option maxRecDepth 100000 in
set_option maxHeartbeats 4000000 in
theorem c_X8_size (l : Launch) (D : va_G) (cy : Nat → ClassId) (N0 : Nat) (h : qH) (y ms mb mw od pt fi re rc rs so ot cn la ro : Nat) (gr cd ca mv ct fau cs ce rn : Int32) (ra rk rv : Nat → Nat) (S : Nat → qSlot) (p0 : Int32) (hY : h y = some (.inr (8, [.ref ms, .ref mb, .ref mw, .int gr, .int cd, .int ca, .int mv, .ref od, .ref pt, .int ct, .int fau, .ref fi, .ref re, .int cs, .ref rc, .ref rs, .ref so, .ref ot, .ref cn, .ref la, .int ce, .ref ro, .int rn]))) (hM : qMR cy h ms mb mw ra rk rv S) : qC l D cy N0 yX8_size cX8_size 2 (some .int) 1 22 0 0 [.ref y, .int p0] h (fun v h' => v = some (.int (xs_size S p0).2) ∧ h' y = some (.inr (8, [.ref ms, .ref mb, .ref mw, .int gr, .int (xs_size S p0).1, .int ca, .int mv, .ref od, .ref pt, .int ct, .int fau, .ref fi, .ref re, .int cs, .ref rc, .ref rs, .ref so, .ref ot, .ref cn, .ref la, .int ce, .ref ro, .int rn])) ∧ qMR cy h' ms mb mw ra rk rv (S) ∧ qFm h h' y ra rk rv) (fun E h' => False) := by
  refine q_ofW (by decide) (by exact Nat.le_of_ble_eq_true rfl) ?_
  intro p e s m below meth c ls C hP hl
  have hx := C.1
  have hb := C.2.1
  have hS : va_S (qA N0) s.heap s.heap [] := va_S.rf
  have hl : lv_has ls 2 [(0, .ref y), (1, .int p0)] := hl
  have hle : qle h h := qle_rf
  have hY0 := hY
  obtain ⟨hms, hmb, hmw, hmd, hrs, kdw, smw, dpw, rww, nw, fw, gw, hRw⟩ := id hM
  subst hmw
  have fr : ∀ b o, h b = some o → b ≠ y → qOf (ra 28) (rk 28) (rv 28) b → h b = some o := fun b o hb _ _ => hb
  have faw := hRw.2.2.2.1
  have fkw := hRw.2.2.2.2.1
  have fvw := hRw.2.2.2.2.2
  unfold qRb at faw
  unfold qJr at fkw fvw
  refine lv_aload_n hx hb dX8_size_0 rfl (lv_at hl 0 rfl) ?_
  refine lv_iload_n hx hb dX8_size_1 rfl (lv_at hl 1 rfl) ?_
  refine q_callS (rest := [.ref y]) C (c_X8_isSlot l D cy N0 h p0) kX8_isSlot g1246 g1247 hP hS (by first | decide | omega) hl.1 rfl (by simp [q_catrf, q_cati, q_catl, q_cata, q_catn]) (by first | decide | omega) dX8_size_2 (fun q ce E h' H1 locs1 hE => hE.elim) (fun v hh1 H locs hq hP hS => ?_)
  obtain ⟨rfl, ⟨rfl, sl9⟩ | ⟨rfl, sl9⟩⟩ := hq
  · obtain ⟨i, hi, rfl⟩ := sl9.of
    have ebi : bSl (nI i) = true := bSl_t sl9
    have eci : (nI i).toNatClampNeg = i := nI_clamp (by omega)
    refine lv_iconst (v := nI 1) hx hb dX8_size_5 (by decide) ?_
    refine q_callV (rest := []) C (c_X8_good1 l D cy N0 h y ms mb (ra 28) od pt fi re rc rs so ot cn la ro gr cd ca mv ct fau cs ce rn (nI 1) hY) kX8_good g1249 g1251 rfl gp41 g4 hP hS hY (by first | decide | omega) hl.1 rfl (by decide) (by first | decide | omega) dX8_size_6 (fun q ce E h' H1 locs1 hE => hE.elim) (fun v hh2 H locs hq hP hS => ?_)
    obtain ⟨rfl, rfl⟩ := hq
    replace hP : qP D N0 (qs h y (.inr (8, [.ref ms, .ref mb, .ref (ra 28), .int gr, .int 0, .int ca, .int mv, .ref od, .ref pt, .int ct, .int fau, .ref fi, .ref re, .int cs, .ref rc, .ref rs, .ref so, .ref ot, .ref cn, .ref la, .int ce, .ref ro, .int rn]))) H := hP
    obtain ⟨hv1, ehv1⟩ : ∃ z : qH, z = qs h y (.inr (8, [.ref ms, .ref mb, .ref (ra 28), .int gr, .int 0, .int ca, .int mv, .ref od, .ref pt, .int ct, .int fau, .ref fi, .ref re, .int cs, .ref rc, .ref rs, .ref so, .ref ot, .ref cn, .ref la, .int ce, .ref ro, .int rn])) := ⟨_, rfl⟩
    rw [← ehv1] at hP
    have khv1 : ∀ b o, b ≠ y → h b = some o → hv1 b = some o := by rw [ehv1]; exact fun b o nb hb => (qs_ne nb).trans hb
    replace hms := khv1 _ _ (fun q => by subst q; have := hms.symm.trans hY; first | cases this | simp at this) hms
    replace hmb := khv1 _ _ (fun q => by subst q; have := hmb.symm.trans hY; first | cases this | simp at this) hmb
    replace faw := khv1 _ _ (fun q => by have z9 := faw; rw [q] at z9; have := z9.symm.trans hY; first | cases this | simp at this) faw
    replace fkw := khv1 _ _ (fun q => by have z9 := fkw; rw [q] at z9; have := z9.symm.trans hY; first | cases this | simp at this) fkw
    replace fvw := khv1 _ _ (fun q => by have z9 := fvw; rw [q] at z9; have := z9.symm.trans hY; first | cases this | simp at this) fvw
    replace hY : hv1 y = some (.inr (8, [.ref ms, .ref mb, .ref (ra 28), .int gr, .int 0, .int ca, .int mv, .ref od, .ref pt, .int ct, .int fau, .ref fi, .ref re, .int cs, .ref rc, .ref rs, .ref so, .ref ot, .ref cn, .ref la, .int ce, .ref ro, .int rn])) := by rw [ehv1]; exact qs_self
    clear ehv1
    replace fr := fun b o hb n1 n2 => khv1 b o n1 (fr b o hb n1 n2)
    refine lv_if_eq (tgt := 27) hx hb dX8_size_9 (by decide) (fun c9 => ?_) (fun c9 => ?_)
    · replace c9 : 1 = 0 := (nI_eq (a := 1) (b := 0) (by omega) (by omega)).mp c9
      exfalso; omega
    · replace c9 : ¬ 1 = 0 := fun zq => c9 ((nI_eq (a := 1) (b := 0) (by omega) (by omega)).mpr zq)
      refine lv_aload_n hx hb dX8_size_12 rfl (lv_at hl 0 rfl) ?_
      refine lv_aload_n hx hb dX8_size_13 rfl (lv_at hl 0 rfl) ?_
      refine lv_iload_n hx hb dX8_size_14 rfl (lv_at hl 1 rfl) ?_
      refine lv_bipush (v := nI 63) hx hb dX8_size_15 (by decide) ?_
      obtain ⟨ni, rwi, Fi, Gi, hRi, hni, hLi, hKi⟩ := hrs i (by omega)
      have api := hRi.apart hRw (hmd.two (i := i) (j := 28) (by omega) (by omega) (by omega))
      replace hRi := hRi.keep2 (fun b o hb ho => fr b o ho (hRi.ney hY0 hb) (hb.elim (fun q => q ▸ api.1) (fun hb => hb.elim (fun q => q ▸ api.2.1) (fun q => q ▸ api.2.2))))
      have fai := hRi.2.2.2.1
      have fki := hRi.2.2.2.2.1
      have fvi := hRi.2.2.2.2.2
      unfold qRb at fai
      unfold qJr at fki fvi
      refine q_callV (rest := [.ref y]) C (c_X8_holds l D cy N0 hv1 y ms ra rk rv i 63 _ _ _ _ _ _ _ _ hY rfl hms ⟨hRi.1, hRi.2.1, hRi.2.2.1, fai, fki, fvi⟩ (by omega)) kX8_holds g1264 g1266 rfl gp42 g4 hP hS hY (by first | decide | omega) hl.1 rfl (by simp [q_catrf, q_cati, q_catl, q_cata, q_catn]) (by first | decide | omega) dX8_size_17 (fun q ce E h' H1 locs1 hE => hE.elim) (fun v hh3 H locs hq hP hS => ?_)
      obtain ⟨rfl, rfl⟩ := hq
      cases hoi : bHo (S i).1 63 with
      | false =>
        refine lv_iconst (v := nI 2) hx hb dX8_size_20 (by decide) ?_
        refine q_callV (rest := []) C (c_X8_good0 l D cy N0 hv1 y ms mb (ra 28) od pt fi re rc rs so ot cn la ro gr 0 ca mv ct fau cs ce rn (nI 2) hY) kX8_good g1249 g1251 rfl gp41 g4 hP hS hY (by first | decide | omega) hl.1 rfl (by decide) (by first | decide | omega) dX8_size_21 (fun q ce E h' H1 locs1 hE => hE.elim) (fun v hh4 H locs hq hP hS => ?_)
        obtain ⟨rfl, rfl⟩ := hq
        replace hP : qP D N0 (qs hv1 y (.inr (8, [.ref ms, .ref mb, .ref (ra 28), .int gr, .int (nI 2), .int ca, .int mv, .ref od, .ref pt, .int ct, .int fau, .ref fi, .ref re, .int cs, .ref rc, .ref rs, .ref so, .ref ot, .ref cn, .ref la, .int ce, .ref ro, .int rn]))) H := hP
        obtain ⟨hv2, ehv2⟩ : ∃ z : qH, z = qs hv1 y (.inr (8, [.ref ms, .ref mb, .ref (ra 28), .int gr, .int (nI 2), .int ca, .int mv, .ref od, .ref pt, .int ct, .int fau, .ref fi, .ref re, .int cs, .ref rc, .ref rs, .ref so, .ref ot, .ref cn, .ref la, .int ce, .ref ro, .int rn])) := ⟨_, rfl⟩
        rw [← ehv2] at hP
        have khv2 : ∀ b o, b ≠ y → hv1 b = some o → hv2 b = some o := by rw [ehv2]; exact fun b o nb hb => (qs_ne nb).trans hb
        replace hms := khv2 _ _ (fun q => by subst q; have := hms.symm.trans hY; first | cases this | simp at this) hms
        replace hmb := khv2 _ _ (fun q => by subst q; have := hmb.symm.trans hY; first | cases this | simp at this) hmb
        replace faw := khv2 _ _ (fun q => by have z9 := faw; rw [q] at z9; have := z9.symm.trans hY; first | cases this | simp at this) faw
        replace fkw := khv2 _ _ (fun q => by have z9 := fkw; rw [q] at z9; have := z9.symm.trans hY; first | cases this | simp at this) fkw
        replace fvw := khv2 _ _ (fun q => by have z9 := fvw; rw [q] at z9; have := z9.symm.trans hY; first | cases this | simp at this) fvw
        replace fai := khv2 _ _ (fun q => by have z9 := fai; rw [q] at z9; have := z9.symm.trans hY; first | cases this | simp at this) fai
        replace fki := khv2 _ _ (fun q => by have z9 := fki; rw [q] at z9; have := z9.symm.trans hY; first | cases this | simp at this) fki
        replace fvi := khv2 _ _ (fun q => by have z9 := fvi; rw [q] at z9; have := z9.symm.trans hY; first | cases this | simp at this) fvi
        replace hY : hv2 y = some (.inr (8, [.ref ms, .ref mb, .ref (ra 28), .int gr, .int (nI 2), .int ca, .int mv, .ref od, .ref pt, .int ct, .int fau, .ref fi, .ref re, .int cs, .ref rc, .ref rs, .ref so, .ref ot, .ref cn, .ref la, .int ce, .ref ro, .int rn])) := by rw [ehv2]; exact qs_self
        clear ehv2
        replace fr := fun b o hb n1 n2 => khv2 b o n1 (fr b o hb n1 n2)
        refine lv_if_ne (tgt := 29) hx hb dX8_size_24 (by decide) (fun c24 => ?_) (fun c24 => ?_)
        · replace c24 : ¬ 0 = 0 := fun zq => c24 ((nI_eq (a := 0) (b := 0) (by omega) (by omega)).mpr zq)
          exfalso; omega
        · replace c24 : 0 = 0 := (nI_eq (a := 0) (b := 0) (by omega) (by omega)).mp c24
          refine lv_iconst (v := nI 0) hx hb dX8_size_27 (by decide) ?_
          have ex : xs_size S (nI i) = (2, 0) := by simp [xs_size, ebi, eci, hoi]
          obtain ⟨m9, f9⟩ := hM.fin0 hY0 (h' := hv2) ⟨hRw.1, hRw.2.1, hRw.2.2.1, faw, fkw, fvw⟩ fr
          exact q_iret C hP hS ⟨by first | (rw [ex]; done) | (rw [ex]; rfl), by rw [ex]; exact hY, by first | exact m9 | (rw [ex]; exact m9), f9⟩ (by omega) dX8_size_28
      | true =>
        refine lv_iconst (v := nI 2) hx hb dX8_size_20 (by decide) ?_
        refine q_callV (rest := []) C (c_X8_good1 l D cy N0 hv1 y ms mb (ra 28) od pt fi re rc rs so ot cn la ro gr 0 ca mv ct fau cs ce rn (nI 2) hY) kX8_good g1249 g1251 rfl gp41 g4 hP hS hY (by first | decide | omega) hl.1 rfl (by decide) (by first | decide | omega) dX8_size_21 (fun q ce E h' H1 locs1 hE => hE.elim) (fun v hh5 H locs hq hP hS => ?_)
        obtain ⟨rfl, rfl⟩ := hq
        replace hP : qP D N0 (qs hv1 y (.inr (8, [.ref ms, .ref mb, .ref (ra 28), .int gr, .int 0, .int ca, .int mv, .ref od, .ref pt, .int ct, .int fau, .ref fi, .ref re, .int cs, .ref rc, .ref rs, .ref so, .ref ot, .ref cn, .ref la, .int ce, .ref ro, .int rn]))) H := hP
        obtain ⟨hv3, ehv3⟩ : ∃ z : qH, z = qs hv1 y (.inr (8, [.ref ms, .ref mb, .ref (ra 28), .int gr, .int 0, .int ca, .int mv, .ref od, .ref pt, .int ct, .int fau, .ref fi, .ref re, .int cs, .ref rc, .ref rs, .ref so, .ref ot, .ref cn, .ref la, .int ce, .ref ro, .int rn])) := ⟨_, rfl⟩
        rw [← ehv3] at hP
        have khv3 : ∀ b o, b ≠ y → hv1 b = some o → hv3 b = some o := by rw [ehv3]; exact fun b o nb hb => (qs_ne nb).trans hb
        replace hms := khv3 _ _ (fun q => by subst q; have := hms.symm.trans hY; first | cases this | simp at this) hms
        replace hmb := khv3 _ _ (fun q => by subst q; have := hmb.symm.trans hY; first | cases this | simp at this) hmb
        replace faw := khv3 _ _ (fun q => by have z9 := faw; rw [q] at z9; have := z9.symm.trans hY; first | cases this | simp at this) faw
        replace fkw := khv3 _ _ (fun q => by have z9 := fkw; rw [q] at z9; have := z9.symm.trans hY; first | cases this | simp at this) fkw
        replace fvw := khv3 _ _ (fun q => by have z9 := fvw; rw [q] at z9; have := z9.symm.trans hY; first | cases this | simp at this) fvw
        replace fai := khv3 _ _ (fun q => by have z9 := fai; rw [q] at z9; have := z9.symm.trans hY; first | cases this | simp at this) fai
        replace fki := khv3 _ _ (fun q => by have z9 := fki; rw [q] at z9; have := z9.symm.trans hY; first | cases this | simp at this) fki
        replace fvi := khv3 _ _ (fun q => by have z9 := fvi; rw [q] at z9; have := z9.symm.trans hY; first | cases this | simp at this) fvi
        replace hY : hv3 y = some (.inr (8, [.ref ms, .ref mb, .ref (ra 28), .int gr, .int 0, .int ca, .int mv, .ref od, .ref pt, .int ct, .int fau, .ref fi, .ref re, .int cs, .ref rc, .ref rs, .ref so, .ref ot, .ref cn, .ref la, .int ce, .ref ro, .int rn])) := by rw [ehv3]; exact qs_self
        clear ehv3
        replace fr := fun b o hb n1 n2 => khv3 b o n1 (fr b o hb n1 n2)
        refine lv_if_ne (tgt := 29) hx hb dX8_size_24 (by decide) (fun c24 => ?_) (fun c24 => ?_)
        · replace c24 : ¬ 1 = 0 := fun zq => c24 ((nI_eq (a := 1) (b := 0) (by omega) (by omega)).mpr zq)
          refine lv_aload_n hx hb dX8_size_29 rfl (lv_at hl 0 rfl) ?_
          refine q_get C hP hY rfl inX8 0 (by decide) g1167 rfl dX8_size_30 ?_
          refine lv_iload_n hx hb dX8_size_33 rfl (lv_at hl 1 rfl) ?_
          refine q_aaldR C hP hms rfl (by omega) (by omega) rfl dX8_size_34 ?_
          refine q_get C hP fai rfl inX7 3 (by decide) g1143 rfl dX8_size_35 ?_
          have ex : xs_size S (nI i) = (0, nI ni) := by simp [xs_size, ebi, eci, hoi, hLi, qLs_len]
          obtain ⟨m9, f9⟩ := hM.fin0 hY0 (h' := hv3) ⟨hRw.1, hRw.2.1, hRw.2.2.1, faw, fkw, fvw⟩ fr
          exact q_iret C hP hS ⟨by first | (rw [ex]; done) | (rw [ex]; rfl), by rw [ex]; exact hY, by first | exact m9 | (rw [ex]; exact m9), f9⟩ (by omega) dX8_size_38
        · replace c24 : 1 = 0 := (nI_eq (a := 1) (b := 0) (by omega) (by omega)).mp c24
          exfalso; omega
  · have ebi : bSl p0 = false := bSl_f sl9
    refine lv_iconst (v := nI 1) hx hb dX8_size_5 (by decide) ?_
    refine q_callV (rest := []) C (c_X8_good0 l D cy N0 h y ms mb (ra 28) od pt fi re rc rs so ot cn la ro gr cd ca mv ct fau cs ce rn (nI 1) hY) kX8_good g1249 g1251 rfl gp41 g4 hP hS hY (by first | decide | omega) hl.1 rfl (by decide) (by first | decide | omega) dX8_size_6 (fun q ce E h' H1 locs1 hE => hE.elim) (fun v hh6 H locs hq hP hS => ?_)
    obtain ⟨rfl, rfl⟩ := hq
    replace hP : qP D N0 (qs h y (.inr (8, [.ref ms, .ref mb, .ref (ra 28), .int gr, .int (nI 1), .int ca, .int mv, .ref od, .ref pt, .int ct, .int fau, .ref fi, .ref re, .int cs, .ref rc, .ref rs, .ref so, .ref ot, .ref cn, .ref la, .int ce, .ref ro, .int rn]))) H := hP
    obtain ⟨hv4, ehv4⟩ : ∃ z : qH, z = qs h y (.inr (8, [.ref ms, .ref mb, .ref (ra 28), .int gr, .int (nI 1), .int ca, .int mv, .ref od, .ref pt, .int ct, .int fau, .ref fi, .ref re, .int cs, .ref rc, .ref rs, .ref so, .ref ot, .ref cn, .ref la, .int ce, .ref ro, .int rn])) := ⟨_, rfl⟩
    rw [← ehv4] at hP
    have khv4 : ∀ b o, b ≠ y → h b = some o → hv4 b = some o := by rw [ehv4]; exact fun b o nb hb => (qs_ne nb).trans hb
    replace hms := khv4 _ _ (fun q => by subst q; have := hms.symm.trans hY; first | cases this | simp at this) hms
    replace hmb := khv4 _ _ (fun q => by subst q; have := hmb.symm.trans hY; first | cases this | simp at this) hmb
    replace faw := khv4 _ _ (fun q => by have z9 := faw; rw [q] at z9; have := z9.symm.trans hY; first | cases this | simp at this) faw
    replace fkw := khv4 _ _ (fun q => by have z9 := fkw; rw [q] at z9; have := z9.symm.trans hY; first | cases this | simp at this) fkw
    replace fvw := khv4 _ _ (fun q => by have z9 := fvw; rw [q] at z9; have := z9.symm.trans hY; first | cases this | simp at this) fvw
    replace hY : hv4 y = some (.inr (8, [.ref ms, .ref mb, .ref (ra 28), .int gr, .int (nI 1), .int ca, .int mv, .ref od, .ref pt, .int ct, .int fau, .ref fi, .ref re, .int cs, .ref rc, .ref rs, .ref so, .ref ot, .ref cn, .ref la, .int ce, .ref ro, .int rn])) := by rw [ehv4]; exact qs_self
    clear ehv4
    replace fr := fun b o hb n1 n2 => khv4 b o n1 (fr b o hb n1 n2)
    refine lv_if_eq (tgt := 27) hx hb dX8_size_9 (by decide) (fun c9 => ?_) (fun c9 => ?_)
    · replace c9 : 0 = 0 := (nI_eq (a := 0) (b := 0) (by omega) (by omega)).mp c9
      refine lv_iconst (v := nI 0) hx hb dX8_size_27 (by decide) ?_
      have ex : xs_size S p0 = (1, 0) := by simp [xs_size, ebi]
      obtain ⟨m9, f9⟩ := hM.fin0 hY0 (h' := hv4) ⟨hRw.1, hRw.2.1, hRw.2.2.1, faw, fkw, fvw⟩ fr
      exact q_iret C hP hS ⟨by first | (rw [ex]; done) | (rw [ex]; rfl), by rw [ex]; exact hY, by first | exact m9 | (rw [ex]; exact m9), f9⟩ (by omega) dX8_size_28
    · replace c9 : ¬ 0 = 0 := fun zq => c9 ((nI_eq (a := 0) (b := 0) (by omega) (by omega)).mpr zq)
      exfalso; omega


set_option maxRecDepth 100000 in
set_option maxHeartbeats 4000000 in
theorem c_X8_kind (l : Launch) (D : va_G) (cy : Nat → ClassId) (N0 : Nat) (h : qH) (y ms mb mw od pt fi re rc rs so ot cn la ro : Nat) (gr cd ca mv ct fau cs ce rn : Int32) (ra rk rv : Nat → Nat) (S : Nat → qSlot) (p0 : Int32) (hY : h y = some (.inr (8, [.ref ms, .ref mb, .ref mw, .int gr, .int cd, .int ca, .int mv, .ref od, .ref pt, .int ct, .int fau, .ref fi, .ref re, .int cs, .ref rc, .ref rs, .ref so, .ref ot, .ref cn, .ref la, .int ce, .ref ro, .int rn]))) (hM : qMR cy h ms mb mw ra rk rv S) : qC l D cy N0 yX8_kind cX8_kind 2 (some .int) 1 22 0 0 [.ref y, .int p0] h (fun v h' => v = some (.int (xs_kind S p0).2) ∧ h' y = some (.inr (8, [.ref ms, .ref mb, .ref mw, .int gr, .int (xs_kind S p0).1, .int ca, .int mv, .ref od, .ref pt, .int ct, .int fau, .ref fi, .ref re, .int cs, .ref rc, .ref rs, .ref so, .ref ot, .ref cn, .ref la, .int ce, .ref ro, .int rn])) ∧ qMR cy h' ms mb mw ra rk rv (S) ∧ qFm h h' y ra rk rv) (fun E h' => False) := by
  refine q_ofW (by decide) (by exact Nat.le_of_ble_eq_true rfl) ?_
  intro p e s m below meth c ls C hP hl
  have hx := C.1
  have hb := C.2.1
  have hS : va_S (qA N0) s.heap s.heap [] := va_S.rf
  have hl : lv_has ls 2 [(0, .ref y), (1, .int p0)] := hl
  have hle : qle h h := qle_rf
  have hY0 := hY
  obtain ⟨hms, hmb, hmw, hmd, hrs, kdw, smw, dpw, rww, nw, fw, gw, hRw⟩ := id hM
  subst hmw
  have fr : ∀ b o, h b = some o → b ≠ y → qOf (ra 28) (rk 28) (rv 28) b → h b = some o := fun b o hb _ _ => hb
  have faw := hRw.2.2.2.1
  have fkw := hRw.2.2.2.2.1
  have fvw := hRw.2.2.2.2.2
  unfold qRb at faw
  unfold qJr at fkw fvw
  refine lv_aload_n hx hb dX8_kind_0 rfl (lv_at hl 0 rfl) ?_
  refine lv_iload_n hx hb dX8_kind_1 rfl (lv_at hl 1 rfl) ?_
  refine q_callS (rest := [.ref y]) C (c_X8_isSlot l D cy N0 h p0) kX8_isSlot g1246 g1247 hP hS (by first | decide | omega) hl.1 rfl (by simp [q_catrf, q_cati, q_catl, q_cata, q_catn]) (by first | decide | omega) dX8_kind_2 (fun q ce E h' H1 locs1 hE => hE.elim) (fun v hh1 H locs hq hP hS => ?_)
  obtain ⟨rfl, ⟨rfl, sl9⟩ | ⟨rfl, sl9⟩⟩ := hq
  · obtain ⟨i, hi, rfl⟩ := sl9.of
    have ebi : bSl (nI i) = true := bSl_t sl9
    have eci : (nI i).toNatClampNeg = i := nI_clamp (by omega)
    refine lv_iconst (v := nI 1) hx hb dX8_kind_5 (by decide) ?_
    refine q_callV (rest := []) C (c_X8_good1 l D cy N0 h y ms mb (ra 28) od pt fi re rc rs so ot cn la ro gr cd ca mv ct fau cs ce rn (nI 1) hY) kX8_good g1249 g1251 rfl gp41 g4 hP hS hY (by first | decide | omega) hl.1 rfl (by decide) (by first | decide | omega) dX8_kind_6 (fun q ce E h' H1 locs1 hE => hE.elim) (fun v hh2 H locs hq hP hS => ?_)
    obtain ⟨rfl, rfl⟩ := hq
    replace hP : qP D N0 (qs h y (.inr (8, [.ref ms, .ref mb, .ref (ra 28), .int gr, .int 0, .int ca, .int mv, .ref od, .ref pt, .int ct, .int fau, .ref fi, .ref re, .int cs, .ref rc, .ref rs, .ref so, .ref ot, .ref cn, .ref la, .int ce, .ref ro, .int rn]))) H := hP
    obtain ⟨hv1, ehv1⟩ : ∃ z : qH, z = qs h y (.inr (8, [.ref ms, .ref mb, .ref (ra 28), .int gr, .int 0, .int ca, .int mv, .ref od, .ref pt, .int ct, .int fau, .ref fi, .ref re, .int cs, .ref rc, .ref rs, .ref so, .ref ot, .ref cn, .ref la, .int ce, .ref ro, .int rn])) := ⟨_, rfl⟩
    rw [← ehv1] at hP
    have khv1 : ∀ b o, b ≠ y → h b = some o → hv1 b = some o := by rw [ehv1]; exact fun b o nb hb => (qs_ne nb).trans hb
    replace hms := khv1 _ _ (fun q => by subst q; have := hms.symm.trans hY; first | cases this | simp at this) hms
    replace hmb := khv1 _ _ (fun q => by subst q; have := hmb.symm.trans hY; first | cases this | simp at this) hmb
    replace faw := khv1 _ _ (fun q => by have z9 := faw; rw [q] at z9; have := z9.symm.trans hY; first | cases this | simp at this) faw
    replace fkw := khv1 _ _ (fun q => by have z9 := fkw; rw [q] at z9; have := z9.symm.trans hY; first | cases this | simp at this) fkw
    replace fvw := khv1 _ _ (fun q => by have z9 := fvw; rw [q] at z9; have := z9.symm.trans hY; first | cases this | simp at this) fvw
    replace hY : hv1 y = some (.inr (8, [.ref ms, .ref mb, .ref (ra 28), .int gr, .int 0, .int ca, .int mv, .ref od, .ref pt, .int ct, .int fau, .ref fi, .ref re, .int cs, .ref rc, .ref rs, .ref so, .ref ot, .ref cn, .ref la, .int ce, .ref ro, .int rn])) := by rw [ehv1]; exact qs_self
    clear ehv1
    replace fr := fun b o hb n1 n2 => khv1 b o n1 (fr b o hb n1 n2)
    refine lv_if_ne (tgt := 14) hx hb dX8_kind_9 (by decide) (fun c9 => ?_) (fun c9 => ?_)
    · replace c9 : ¬ 1 = 0 := fun zq => c9 ((nI_eq (a := 1) (b := 0) (by omega) (by omega)).mpr zq)
      refine lv_aload_n hx hb dX8_kind_14 rfl (lv_at hl 0 rfl) ?_
      refine q_get C hP hY rfl inX8 0 (by decide) g1167 rfl dX8_kind_15 ?_
      refine lv_iload_n hx hb dX8_kind_18 rfl (lv_at hl 1 rfl) ?_
      refine q_aaldR C hP hms rfl (by omega) (by omega) rfl dX8_kind_19 ?_
      obtain ⟨ni, rwi, Fi, Gi, hRi, hni, hLi, hKi⟩ := hrs i (by omega)
      have api := hRi.apart hRw (hmd.two (i := i) (j := 28) (by omega) (by omega) (by omega))
      replace hRi := hRi.keep2 (fun b o hb ho => fr b o ho (hRi.ney hY0 hb) (hb.elim (fun q => q ▸ api.1) (fun hb => hb.elim (fun q => q ▸ api.2.1) (fun q => q ▸ api.2.2))))
      have fai := hRi.2.2.2.1
      have fki := hRi.2.2.2.2.1
      have fvi := hRi.2.2.2.2.2
      unfold qRb at fai
      unfold qJr at fki fvi
      refine q_get C hP fai rfl inX7 2 (by decide) g1142 rfl dX8_kind_20 ?_
      have ex : xs_kind S (nI i) = (0, (S i).1) := by simp [xs_kind, ebi, eci]
      obtain ⟨m9, f9⟩ := hM.fin0 hY0 (h' := hv1) ⟨hRw.1, hRw.2.1, hRw.2.2.1, faw, fkw, fvw⟩ fr
      exact q_iret C hP hS ⟨by first | (rw [ex]; done) | (rw [ex]; rfl), by rw [ex]; exact hY, by first | exact m9 | (rw [ex]; exact m9), f9⟩ (by omega) dX8_kind_23
    · replace c9 : 1 = 0 := (nI_eq (a := 1) (b := 0) (by omega) (by omega)).mp c9
      exfalso; omega
  · have ebi : bSl p0 = false := bSl_f sl9
    refine lv_iconst (v := nI 1) hx hb dX8_kind_5 (by decide) ?_
    refine q_callV (rest := []) C (c_X8_good0 l D cy N0 h y ms mb (ra 28) od pt fi re rc rs so ot cn la ro gr cd ca mv ct fau cs ce rn (nI 1) hY) kX8_good g1249 g1251 rfl gp41 g4 hP hS hY (by first | decide | omega) hl.1 rfl (by decide) (by first | decide | omega) dX8_kind_6 (fun q ce E h' H1 locs1 hE => hE.elim) (fun v hh3 H locs hq hP hS => ?_)
    obtain ⟨rfl, rfl⟩ := hq
    replace hP : qP D N0 (qs h y (.inr (8, [.ref ms, .ref mb, .ref (ra 28), .int gr, .int (nI 1), .int ca, .int mv, .ref od, .ref pt, .int ct, .int fau, .ref fi, .ref re, .int cs, .ref rc, .ref rs, .ref so, .ref ot, .ref cn, .ref la, .int ce, .ref ro, .int rn]))) H := hP
    obtain ⟨hv2, ehv2⟩ : ∃ z : qH, z = qs h y (.inr (8, [.ref ms, .ref mb, .ref (ra 28), .int gr, .int (nI 1), .int ca, .int mv, .ref od, .ref pt, .int ct, .int fau, .ref fi, .ref re, .int cs, .ref rc, .ref rs, .ref so, .ref ot, .ref cn, .ref la, .int ce, .ref ro, .int rn])) := ⟨_, rfl⟩
    rw [← ehv2] at hP
    have khv2 : ∀ b o, b ≠ y → h b = some o → hv2 b = some o := by rw [ehv2]; exact fun b o nb hb => (qs_ne nb).trans hb
    replace hms := khv2 _ _ (fun q => by subst q; have := hms.symm.trans hY; first | cases this | simp at this) hms
    replace hmb := khv2 _ _ (fun q => by subst q; have := hmb.symm.trans hY; first | cases this | simp at this) hmb
    replace faw := khv2 _ _ (fun q => by have z9 := faw; rw [q] at z9; have := z9.symm.trans hY; first | cases this | simp at this) faw
    replace fkw := khv2 _ _ (fun q => by have z9 := fkw; rw [q] at z9; have := z9.symm.trans hY; first | cases this | simp at this) fkw
    replace fvw := khv2 _ _ (fun q => by have z9 := fvw; rw [q] at z9; have := z9.symm.trans hY; first | cases this | simp at this) fvw
    replace hY : hv2 y = some (.inr (8, [.ref ms, .ref mb, .ref (ra 28), .int gr, .int (nI 1), .int ca, .int mv, .ref od, .ref pt, .int ct, .int fau, .ref fi, .ref re, .int cs, .ref rc, .ref rs, .ref so, .ref ot, .ref cn, .ref la, .int ce, .ref ro, .int rn])) := by rw [ehv2]; exact qs_self
    clear ehv2
    replace fr := fun b o hb n1 n2 => khv2 b o n1 (fr b o hb n1 n2)
    refine lv_if_ne (tgt := 14) hx hb dX8_kind_9 (by decide) (fun c9 => ?_) (fun c9 => ?_)
    · replace c9 : ¬ 0 = 0 := fun zq => c9 ((nI_eq (a := 0) (b := 0) (by omega) (by omega)).mpr zq)
      exfalso; omega
    · replace c9 : 0 = 0 := (nI_eq (a := 0) (b := 0) (by omega) (by omega)).mp c9
      refine lv_iconst (v := nI 0) hx hb dX8_kind_12 (by decide) ?_
      have ex : xs_kind S p0 = (1, 0) := by simp [xs_kind, ebi]
      obtain ⟨m9, f9⟩ := hM.fin0 hY0 (h' := hv2) ⟨hRw.1, hRw.2.1, hRw.2.2.1, faw, fkw, fvw⟩ fr
      exact q_iret C hP hS ⟨by first | (rw [ex]; done) | (rw [ex]; rfl), by rw [ex]; exact hY, by first | exact m9 | (rw [ex]; exact m9), f9⟩ (by omega) dX8_kind_13

theorem dX8_add_44 : decode cX8_add 44 = .ok (.aload_n 0, 1) := by decide +kernel
theorem dX8_add_45 : decode cX8_add 45 = .ok (.getfield 9, 3) := by decide +kernel
theorem dX8_add_48 : decode cX8_add 48 = .ok (.iload_n 2, 1) := by decide +kernel
theorem dX8_add_49 : decode cX8_add 49 = .ok (.aaload, 1) := by decide +kernel
theorem dX8_add_50 : decode cX8_add 50 = .ok (.aload_n 0, 1) := by decide +kernel
theorem dX8_add_51 : decode cX8_add 51 = .ok (.getfield 19, 3) := by decide +kernel
theorem dX8_add_54 : decode cX8_add 54 = .ok (.invokestatic 104, 3) := by decide +kernel
theorem dX8_add_57 : decode cX8_add 57 = .ok (.aload_n 0, 1) := by decide +kernel
theorem dX8_add_58 : decode cX8_add 58 = .ok (.getfield 19, 3) := by decide +kernel
theorem dX8_add_61 : decode cX8_add 61 = .ok (.lload_n 3, 1) := by decide +kernel
theorem dX8_add_62 : decode cX8_add 62 = .ok (.lconst 0, 1) := by decide +kernel
theorem dX8_add_63 : decode cX8_add 63 = .ok (.aload_n 0, 1) := by decide +kernel
theorem dX8_add_64 : decode cX8_add 64 = .ok (.getfield 19, 3) := by decide +kernel
theorem dX8_add_67 : decode cX8_add 67 = .ok (.getfield 75, 3) := by decide +kernel
theorem dX8_add_70 : decode cX8_add 70 = .ok (.iconst 2, 1) := by decide +kernel
theorem dX8_add_71 : decode cX8_add 71 = .ok (.if_icmp .eq 7, 3) := by decide +kernel
theorem dX8_add_74 : decode cX8_add 74 = .ok (.iconst 1, 1) := by decide +kernel
theorem dX8_add_75 : decode cX8_add 75 = .ok (.goto 4, 3) := by decide +kernel
theorem dX8_add_78 : decode cX8_add 78 = .ok (.iconst 0, 1) := by decide +kernel
theorem dX8_add_79 : decode cX8_add 79 = .ok (.invokestatic 127, 3) := by decide +kernel
theorem dX8_add_82 : decode cX8_add 82 = .ok (.aload_n 0, 1) := by decide +kernel
theorem dX8_add_83 : decode cX8_add 83 = .ok (.aload_n 0, 1) := by decide +kernel
theorem dX8_add_84 : decode cX8_add 84 = .ok (.getfield 19, 3) := by decide +kernel
theorem dX8_add_87 : decode cX8_add 87 = .ok (.getfield 78, 3) := by decide +kernel
theorem dX8_add_90 : decode cX8_add 90 = .ok (.sipush 1000, 3) := by decide +kernel
theorem dX8_add_93 : decode cX8_add 93 = .ok (.if_icmp .gt 19, 3) := by decide +kernel
theorem dX8_add_96 : decode cX8_add 96 = .ok (.aload_n 0, 1) := by decide +kernel
theorem dX8_add_97 : decode cX8_add 97 = .ok (.aload_n 0, 1) := by decide +kernel
theorem dX8_add_98 : decode cX8_add 98 = .ok (.getfield 19, 3) := by decide +kernel
theorem dX8_add_101 : decode cX8_add 101 = .ok (.lload_n 3, 1) := by decide +kernel
theorem dX8_add_102 : decode cX8_add 102 = .ok (.invokevirtual 131, 3) := by decide +kernel
theorem dX8_add_105 : decode cX8_add 105 = .ok (.ifCond .ne 7, 3) := by decide +kernel
theorem dX8_add_108 : decode cX8_add 108 = .ok (.iconst 1, 1) := by decide +kernel
theorem dX8_add_109 : decode cX8_add 109 = .ok (.goto 4, 3) := by decide +kernel
theorem dX8_add_112 : decode cX8_add 112 = .ok (.iconst 0, 1) := by decide +kernel
theorem dX8_add_113 : decode cX8_add 113 = .ok (.iconst 3, 1) := by decide +kernel
theorem dX8_add_114 : decode cX8_add 114 = .ok (.invokevirtual 100, 3) := by decide +kernel
theorem dX8_add_117 : decode cX8_add 117 = .ok (.ifCond .ne 5, 3) := by decide +kernel
theorem dX8_add_120 : decode cX8_add 120 = .ok (.iconst 0, 1) := by decide +kernel
theorem dX8_add_121 : decode cX8_add 121 = .ok (.ireturn, 1) := by decide +kernel
theorem dX8_add_122 : decode cX8_add 122 = .ok (.aload_n 0, 1) := by decide +kernel
theorem dX8_add_123 : decode cX8_add 123 = .ok (.iload_n 1, 1) := by decide +kernel
theorem dX8_add_124 : decode cX8_add 124 = .ok (.iconst 0, 1) := by decide +kernel
theorem dX8_add_125 : decode cX8_add 125 = .ok (.invokevirtual 135, 3) := by decide +kernel
theorem dX8_add_128 : decode cX8_add 128 = .ok (.ireturn, 1) := by decide +kernel
set_option maxRecDepth 100000 in
set_option maxHeartbeats 4000000 in
theorem c_X8_add (l : Launch) (D : va_G) (cy : Nat → ClassId) (N0 : Nat) (h : qH) (y ms mb mw od pt fi re rc rs so ot cn la ro : Nat) (gr cd ca mv ct fau cs ce rn : Int32) (ra rk rv : Nat → Nat) (S : Nat → qSlot) (p0 p1 : Int32) (p2 : Int64) (hY : h y = some (.inr (8, [.ref ms, .ref mb, .ref mw, .int gr, .int cd, .int ca, .int mv, .ref od, .ref pt, .int ct, .int fau, .ref fi, .ref re, .int cs, .ref rc, .ref rs, .ref so, .ref ot, .ref cn, .ref la, .int ce, .ref ro, .int rn]))) (hM : qMR cy h ms mb mw ra rk rv S) (hI : ∀ i, i < 28 → qOk (S i).1 (S i).2.1) : qC l D cy N0 yX8_add cX8_add 5 (some .int) 2 60 0 0 [.ref y, .int p0, .int p1, .long p2] h (fun v h' => v = some (.int (xs_add gr S p0 p1 p2).2.2) ∧ h' y = some (.inr (8, [.ref ms, .ref mb, .ref mw, .int gr, .int (xs_add gr S p0 p1 p2).1, .int ca, .int mv, .ref od, .ref pt, .int ct, .int fau, .ref fi, .ref re, .int cs, .ref rc, .ref rs, .ref so, .ref ot, .ref cn, .ref la, .int ce, .ref ro, .int rn])) ∧ qMR cy h' ms mb mw ra rk rv ((xs_add gr S p0 p1 p2).2.1) ∧ qFm h h' y ra rk rv) (fun E h' => False) := by
  refine q_ofW (by decide) (by exact Nat.le_of_ble_eq_true rfl) ?_
  intro p e s m below meth c ls C hP hl
  have hx := C.1
  have hb := C.2.1
  have hS : va_S (qA N0) s.heap s.heap [] := va_S.rf
  have hl : lv_has ls 5 [(0, .ref y), (1, .int p0), (2, .int p1), (3, .long p2)] := hl
  have hle : qle h h := qle_rf
  have hY0 := hY
  obtain ⟨hms, hmb, hmw, hmd, hrs, kdw, smw, dpw, rww, nw, fw, gw, hRw⟩ := id hM
  subst hmw
  have fr : ∀ b o, h b = some o → b ≠ y → qOf (ra 28) (rk 28) (rv 28) b → h b = some o := fun b o hb _ _ => hb
  have faw := hRw.2.2.2.1
  have fkw := hRw.2.2.2.2.1
  have fvw := hRw.2.2.2.2.2
  unfold qRb at faw
  unfold qJr at fkw fvw
  refine lv_aload_n hx hb dX8_add_0 rfl (lv_at hl 0 rfl) ?_
  refine lv_iload_n hx hb dX8_add_1 rfl (lv_at hl 1 rfl) ?_
  refine q_callS (rest := [.ref y]) C (c_X8_isSlot l D cy N0 h p0) kX8_isSlot g1246 g1247 hP hS (by first | decide | omega) hl.1 rfl (by simp [q_catrf, q_cati, q_catl, q_cata, q_catn]) (by first | decide | omega) dX8_add_2 (fun q ce E h' H1 locs1 hE => hE.elim) (fun v hh1 H locs hq hP hS => ?_)
  obtain ⟨rfl, ⟨rfl, sl9⟩ | ⟨rfl, sl9⟩⟩ := hq
  · obtain ⟨i, hi, rfl⟩ := sl9.of
    have ebi : bSl (nI i) = true := bSl_t sl9
    have eci : (nI i).toNatClampNeg = i := nI_clamp (by omega)
    refine lv_if_eq (tgt := 19) hx hb dX8_add_5 (by decide) (fun c5 => ?_) (fun c5 => ?_)
    · replace c5 : 1 = 0 := (nI_eq (a := 1) (b := 0) (by omega) (by omega)).mp c5
      exfalso; omega
    · replace c5 : ¬ 1 = 0 := fun zq => c5 ((nI_eq (a := 1) (b := 0) (by omega) (by omega)).mpr zq)
      refine lv_iload_n hx hb dX8_add_8 rfl (lv_at hl 2 rfl) ?_
      refine q_callS (rest := [.ref y]) C (c_X8_isSlot l D cy N0 h p1) kX8_isSlot g1246 g1247 hP hS (by first | decide | omega) hl.1 rfl (by simp [q_catrf, q_cati, q_catl, q_cata, q_catn]) (by first | decide | omega) dX8_add_9 (fun q ce E h' H1 locs1 hE => hE.elim) (fun v hh2 H locs hq hP hS => ?_)
      obtain ⟨rfl, ⟨rfl, sl9⟩ | ⟨rfl, sl9⟩⟩ := hq
      · obtain ⟨j, hj, rfl⟩ := sl9.of
        have ebj : bSl (nI j) = true := bSl_t sl9
        have ecj : (nI j).toNatClampNeg = j := nI_clamp (by omega)
        refine lv_if_eq (tgt := 19) hx hb dX8_add_12 (by decide) (fun c12 => ?_) (fun c12 => ?_)
        · replace c12 : 1 = 0 := (nI_eq (a := 1) (b := 0) (by omega) (by omega)).mp c12
          exfalso; omega
        · replace c12 : ¬ 1 = 0 := fun zq => c12 ((nI_eq (a := 1) (b := 0) (by omega) (by omega)).mpr zq)
          refine lv_iconst (v := nI 1) hx hb dX8_add_15 (by decide) ?_
          refine lv_goto (tgt := 20) hx hb dX8_add_16 (by decide) ?_
          refine lv_iconst (v := nI 1) hx hb dX8_add_20 (by decide) ?_
          refine q_callV (rest := []) C (c_X8_good1 l D cy N0 h y ms mb (ra 28) od pt fi re rc rs so ot cn la ro gr cd ca mv ct fau cs ce rn (nI 1) hY) kX8_good g1249 g1251 rfl gp41 g4 hP hS hY (by first | decide | omega) hl.1 rfl (by decide) (by first | decide | omega) dX8_add_21 (fun q ce E h' H1 locs1 hE => hE.elim) (fun v hh3 H locs hq hP hS => ?_)
          obtain ⟨rfl, rfl⟩ := hq
          replace hP : qP D N0 (qs h y (.inr (8, [.ref ms, .ref mb, .ref (ra 28), .int gr, .int 0, .int ca, .int mv, .ref od, .ref pt, .int ct, .int fau, .ref fi, .ref re, .int cs, .ref rc, .ref rs, .ref so, .ref ot, .ref cn, .ref la, .int ce, .ref ro, .int rn]))) H := hP
          obtain ⟨hv1, ehv1⟩ : ∃ z : qH, z = qs h y (.inr (8, [.ref ms, .ref mb, .ref (ra 28), .int gr, .int 0, .int ca, .int mv, .ref od, .ref pt, .int ct, .int fau, .ref fi, .ref re, .int cs, .ref rc, .ref rs, .ref so, .ref ot, .ref cn, .ref la, .int ce, .ref ro, .int rn])) := ⟨_, rfl⟩
          rw [← ehv1] at hP
          have khv1 : ∀ b o, b ≠ y → h b = some o → hv1 b = some o := by rw [ehv1]; exact fun b o nb hb => (qs_ne nb).trans hb
          replace hms := khv1 _ _ (fun q => by subst q; have := hms.symm.trans hY; first | cases this | simp at this) hms
          replace hmb := khv1 _ _ (fun q => by subst q; have := hmb.symm.trans hY; first | cases this | simp at this) hmb
          replace faw := khv1 _ _ (fun q => by have z9 := faw; rw [q] at z9; have := z9.symm.trans hY; first | cases this | simp at this) faw
          replace fkw := khv1 _ _ (fun q => by have z9 := fkw; rw [q] at z9; have := z9.symm.trans hY; first | cases this | simp at this) fkw
          replace fvw := khv1 _ _ (fun q => by have z9 := fvw; rw [q] at z9; have := z9.symm.trans hY; first | cases this | simp at this) fvw
          replace hY : hv1 y = some (.inr (8, [.ref ms, .ref mb, .ref (ra 28), .int gr, .int 0, .int ca, .int mv, .ref od, .ref pt, .int ct, .int fau, .ref fi, .ref re, .int cs, .ref rc, .ref rs, .ref so, .ref ot, .ref cn, .ref la, .int ce, .ref ro, .int rn])) := by rw [ehv1]; exact qs_self
          clear ehv1
          replace fr := fun b o hb n1 n2 => khv1 b o n1 (fr b o hb n1 n2)
          refine lv_if_eq (tgt := 42) hx hb dX8_add_24 (by decide) (fun c24 => ?_) (fun c24 => ?_)
          · replace c24 : 1 = 0 := (nI_eq (a := 1) (b := 0) (by omega) (by omega)).mp c24
            exfalso; omega
          · replace c24 : ¬ 1 = 0 := fun zq => c24 ((nI_eq (a := 1) (b := 0) (by omega) (by omega)).mpr zq)
            refine lv_aload_n hx hb dX8_add_27 rfl (lv_at hl 0 rfl) ?_
            refine lv_aload_n hx hb dX8_add_28 rfl (lv_at hl 0 rfl) ?_
            refine lv_iload_n hx hb dX8_add_29 rfl (lv_at hl 2 rfl) ?_
            refine lv_bipush (v := nI 53) hx hb dX8_add_30 (by decide) ?_
            obtain ⟨nj, rwj, Fj, Gj, hRj, hnj, hLj, hKj⟩ := hrs j (by omega)
            have apj := hRj.apart hRw (hmd.two (i := j) (j := 28) (by omega) (by omega) (by omega))
            replace hRj := hRj.keep2 (fun b o hb ho => fr b o ho (hRj.ney hY0 hb) (hb.elim (fun q => q ▸ apj.1) (fun hb => hb.elim (fun q => q ▸ apj.2.1) (fun q => q ▸ apj.2.2))))
            have faj := hRj.2.2.2.1
            have fkj := hRj.2.2.2.2.1
            have fvj := hRj.2.2.2.2.2
            unfold qRb at faj
            unfold qJr at fkj fvj
            refine q_callV (rest := [.ref y]) C (c_X8_holds l D cy N0 hv1 y ms ra rk rv j 53 _ _ _ _ _ _ _ _ hY rfl hms ⟨hRj.1, hRj.2.1, hRj.2.2.1, faj, fkj, fvj⟩ (by omega)) kX8_holds g1264 g1266 rfl gp42 g4 hP hS hY (by first | decide | omega) hl.1 rfl (by simp [q_catrf, q_cati, q_catl, q_cata, q_catn]) (by first | decide | omega) dX8_add_32 (fun q ce E h' H1 locs1 hE => hE.elim) (fun v hh4 H locs hq hP hS => ?_)
            obtain ⟨rfl, rfl⟩ := hq
            cases hoj : bHo (S j).1 53 with
            | false =>
              refine lv_iconst (v := nI 2) hx hb dX8_add_35 (by decide) ?_
              refine q_callV (rest := []) C (c_X8_good0 l D cy N0 hv1 y ms mb (ra 28) od pt fi re rc rs so ot cn la ro gr 0 ca mv ct fau cs ce rn (nI 2) hY) kX8_good g1249 g1251 rfl gp41 g4 hP hS hY (by first | decide | omega) hl.1 rfl (by decide) (by first | decide | omega) dX8_add_36 (fun q ce E h' H1 locs1 hE => hE.elim) (fun v hh5 H locs hq hP hS => ?_)
              obtain ⟨rfl, rfl⟩ := hq
              replace hP : qP D N0 (qs hv1 y (.inr (8, [.ref ms, .ref mb, .ref (ra 28), .int gr, .int (nI 2), .int ca, .int mv, .ref od, .ref pt, .int ct, .int fau, .ref fi, .ref re, .int cs, .ref rc, .ref rs, .ref so, .ref ot, .ref cn, .ref la, .int ce, .ref ro, .int rn]))) H := hP
              obtain ⟨hv2, ehv2⟩ : ∃ z : qH, z = qs hv1 y (.inr (8, [.ref ms, .ref mb, .ref (ra 28), .int gr, .int (nI 2), .int ca, .int mv, .ref od, .ref pt, .int ct, .int fau, .ref fi, .ref re, .int cs, .ref rc, .ref rs, .ref so, .ref ot, .ref cn, .ref la, .int ce, .ref ro, .int rn])) := ⟨_, rfl⟩
              rw [← ehv2] at hP
              have khv2 : ∀ b o, b ≠ y → hv1 b = some o → hv2 b = some o := by rw [ehv2]; exact fun b o nb hb => (qs_ne nb).trans hb
              replace hms := khv2 _ _ (fun q => by subst q; have := hms.symm.trans hY; first | cases this | simp at this) hms
              replace hmb := khv2 _ _ (fun q => by subst q; have := hmb.symm.trans hY; first | cases this | simp at this) hmb
              replace faw := khv2 _ _ (fun q => by have z9 := faw; rw [q] at z9; have := z9.symm.trans hY; first | cases this | simp at this) faw
              replace fkw := khv2 _ _ (fun q => by have z9 := fkw; rw [q] at z9; have := z9.symm.trans hY; first | cases this | simp at this) fkw
              replace fvw := khv2 _ _ (fun q => by have z9 := fvw; rw [q] at z9; have := z9.symm.trans hY; first | cases this | simp at this) fvw
              replace faj := khv2 _ _ (fun q => by have z9 := faj; rw [q] at z9; have := z9.symm.trans hY; first | cases this | simp at this) faj
              replace fkj := khv2 _ _ (fun q => by have z9 := fkj; rw [q] at z9; have := z9.symm.trans hY; first | cases this | simp at this) fkj
              replace fvj := khv2 _ _ (fun q => by have z9 := fvj; rw [q] at z9; have := z9.symm.trans hY; first | cases this | simp at this) fvj
              replace hY : hv2 y = some (.inr (8, [.ref ms, .ref mb, .ref (ra 28), .int gr, .int (nI 2), .int ca, .int mv, .ref od, .ref pt, .int ct, .int fau, .ref fi, .ref re, .int cs, .ref rc, .ref rs, .ref so, .ref ot, .ref cn, .ref la, .int ce, .ref ro, .int rn])) := by rw [ehv2]; exact qs_self
              clear ehv2
              replace fr := fun b o hb n1 n2 => khv2 b o n1 (fr b o hb n1 n2)
              refine lv_if_ne (tgt := 44) hx hb dX8_add_39 (by decide) (fun c39 => ?_) (fun c39 => ?_)
              · replace c39 : ¬ 0 = 0 := fun zq => c39 ((nI_eq (a := 0) (b := 0) (by omega) (by omega)).mpr zq)
                exfalso; omega
              · replace c39 : 0 = 0 := (nI_eq (a := 0) (b := 0) (by omega) (by omega)).mp c39
                refine lv_iconst (v := nI 0) hx hb dX8_add_42 (by decide) ?_
                have ex : xs_add gr S (nI i) (nI j) p2 = (2, S, 0) := by (unfold xs_add; rw [if_neg (by simp [ebi, ebj]), ecj, if_pos (by simp [hoj])])
                obtain ⟨m9, f9⟩ := hM.fin0 hY0 (h' := hv2) ⟨hRw.1, hRw.2.1, hRw.2.2.1, faw, fkw, fvw⟩ fr
                exact q_iret C hP hS ⟨by first | (rw [ex]; done) | (rw [ex]; rfl), by rw [ex]; exact hY, by first | exact m9 | (rw [ex]; exact m9), f9⟩ (by omega) dX8_add_43
            | true =>
              refine lv_iconst (v := nI 2) hx hb dX8_add_35 (by decide) ?_
              refine q_callV (rest := []) C (c_X8_good1 l D cy N0 hv1 y ms mb (ra 28) od pt fi re rc rs so ot cn la ro gr 0 ca mv ct fau cs ce rn (nI 2) hY) kX8_good g1249 g1251 rfl gp41 g4 hP hS hY (by first | decide | omega) hl.1 rfl (by decide) (by first | decide | omega) dX8_add_36 (fun q ce E h' H1 locs1 hE => hE.elim) (fun v hh6 H locs hq hP hS => ?_)
              obtain ⟨rfl, rfl⟩ := hq
              replace hP : qP D N0 (qs hv1 y (.inr (8, [.ref ms, .ref mb, .ref (ra 28), .int gr, .int 0, .int ca, .int mv, .ref od, .ref pt, .int ct, .int fau, .ref fi, .ref re, .int cs, .ref rc, .ref rs, .ref so, .ref ot, .ref cn, .ref la, .int ce, .ref ro, .int rn]))) H := hP
              obtain ⟨hv3, ehv3⟩ : ∃ z : qH, z = qs hv1 y (.inr (8, [.ref ms, .ref mb, .ref (ra 28), .int gr, .int 0, .int ca, .int mv, .ref od, .ref pt, .int ct, .int fau, .ref fi, .ref re, .int cs, .ref rc, .ref rs, .ref so, .ref ot, .ref cn, .ref la, .int ce, .ref ro, .int rn])) := ⟨_, rfl⟩
              rw [← ehv3] at hP
              have khv3 : ∀ b o, b ≠ y → hv1 b = some o → hv3 b = some o := by rw [ehv3]; exact fun b o nb hb => (qs_ne nb).trans hb
              replace hms := khv3 _ _ (fun q => by subst q; have := hms.symm.trans hY; first | cases this | simp at this) hms
              replace hmb := khv3 _ _ (fun q => by subst q; have := hmb.symm.trans hY; first | cases this | simp at this) hmb
              replace faw := khv3 _ _ (fun q => by have z9 := faw; rw [q] at z9; have := z9.symm.trans hY; first | cases this | simp at this) faw
              replace fkw := khv3 _ _ (fun q => by have z9 := fkw; rw [q] at z9; have := z9.symm.trans hY; first | cases this | simp at this) fkw
              replace fvw := khv3 _ _ (fun q => by have z9 := fvw; rw [q] at z9; have := z9.symm.trans hY; first | cases this | simp at this) fvw
              replace faj := khv3 _ _ (fun q => by have z9 := faj; rw [q] at z9; have := z9.symm.trans hY; first | cases this | simp at this) faj
              replace fkj := khv3 _ _ (fun q => by have z9 := fkj; rw [q] at z9; have := z9.symm.trans hY; first | cases this | simp at this) fkj
              replace fvj := khv3 _ _ (fun q => by have z9 := fvj; rw [q] at z9; have := z9.symm.trans hY; first | cases this | simp at this) fvj
              replace hY : hv3 y = some (.inr (8, [.ref ms, .ref mb, .ref (ra 28), .int gr, .int 0, .int ca, .int mv, .ref od, .ref pt, .int ct, .int fau, .ref fi, .ref re, .int cs, .ref rc, .ref rs, .ref so, .ref ot, .ref cn, .ref la, .int ce, .ref ro, .int rn])) := by rw [ehv3]; exact qs_self
              clear ehv3
              replace fr := fun b o hb n1 n2 => khv3 b o n1 (fr b o hb n1 n2)
              refine lv_if_ne (tgt := 44) hx hb dX8_add_39 (by decide) (fun c39 => ?_) (fun c39 => ?_)
              · replace c39 : ¬ 1 = 0 := fun zq => c39 ((nI_eq (a := 1) (b := 0) (by omega) (by omega)).mpr zq)
                refine lv_aload_n hx hb dX8_add_44 rfl (lv_at hl 0 rfl) ?_
                refine q_get C hP hY rfl inX8 0 (by decide) g1167 rfl dX8_add_45 ?_
                refine lv_iload_n hx hb dX8_add_48 rfl (lv_at hl 2 rfl) ?_
                refine q_aaldR C hP hms rfl (by omega) (by omega) rfl dX8_add_49 ?_
                refine lv_aload_n hx hb dX8_add_50 rfl (lv_at hl 0 rfl) ?_
                refine q_get C hP hY rfl inX8 2 (by decide) g1169 rfl dX8_add_51 ?_
                refine q_callS (rest := []) C (c_X8_copy l D cy N0 hv3 (ra j) (rk j) (rv j) (S j).1 (nI (S j).2.2.1) (nI (S j).2.2.2) rwj nj Fj Gj (ra 28) (rk 28) (rv 28) kdw smw dpw rww nw fw gw ⟨hRj.1, hRj.2.1, hRj.2.2.1, faj, fkj, fvj⟩ ⟨hRw.1, hRw.2.1, hRw.2.2.1, faw, fkw, fvw⟩ apj (by omega)) kX8_copy g1257 g1258 hP hS (by first | decide | omega) hl.1 rfl (by decide) (by first | decide | omega) dX8_add_54 (fun q ce E h' H1 locs1 hE => hE.elim) (fun v hh7 H locs hq hP hS => ?_)
                obtain ⟨rfl, rfl⟩ := hq
                obtain ⟨hv4, ehv4⟩ : ∃ z : qH, z = qRh cy hv3 (ra 28) (rk 28) (rv 28) ((S j).1) (nI nj) (nI (S j).2.2.1) (nI (S j).2.2.2) rwj (qCp Fj fw nj) (qCp Gj gw nj) := ⟨_, rfl⟩
                rw [← ehv4] at hP
                have r9 : qRw cy hv4 (ra 28) (rk 28) (rv 28) ((S j).1) (nI nj) (nI (S j).2.2.1) (nI (S j).2.2.2) rwj (qCp Fj fw nj) (qCp Gj gw nj) := by rw [ehv4]; exact qRw.new (cy := cy) (h := hv3) (kd := kdw) (n := (nI nw)) (sm := smw) (dp := dpw) (rw := rww) (f := fw) (g := gw) ⟨hRw.1, hRw.2.1, hRw.2.2.1, faw, fkw, fvw⟩
                have khv4 : ∀ b o, qOf (ra 28) (rk 28) (rv 28) b → hv3 b = some o → hv4 b = some o := by rw [ehv4]; exact fun b o q hb => (qRh_o q.1 q.2.1 q.2.2).trans hb
                replace hY := khv4 _ _ ⟨fun q => by rw [q] at hY; have := faw.symm.trans hY; first | cases this | simp at this, fun q => by rw [q] at hY; have := fkw.symm.trans hY; first | cases this | simp at this, fun q => by rw [q] at hY; have := fvw.symm.trans hY; first | cases this | simp at this⟩ hY
                replace hms := khv4 _ _ ⟨fun q => by rw [q] at hms; have := faw.symm.trans hms; first | cases this | simp at this, fun q => by rw [q] at hms; have := fkw.symm.trans hms; first | cases this | simp at this, fun q => by rw [q] at hms; have := fvw.symm.trans hms; first | cases this | simp at this⟩ hms
                replace hmb := khv4 _ _ ⟨fun q => by rw [q] at hmb; have := faw.symm.trans hmb; first | cases this | simp at this, fun q => by rw [q] at hmb; have := fkw.symm.trans hmb; first | cases this | simp at this, fun q => by rw [q] at hmb; have := fvw.symm.trans hmb; first | cases this | simp at this⟩ hmb
                replace faj := khv4 _ _ apj.1 faj
                replace fkj := khv4 _ _ apj.2.1 fkj
                replace fvj := khv4 _ _ apj.2.2 fvj
                replace fr := fun b o hb n1 n2 => khv4 b o n2 (fr b o hb n1 n2)
                clear faw fkw fvw
                have faw := r9.2.2.2.1
                have fkw := r9.2.2.2.2.1
                have fvw := r9.2.2.2.2.2
                unfold qRb at faw
                unfold qJr at fkw fvw
                clear r9 ehv4
                have lw : qLs ((S j).1) (qCp Fj fw nj) (qCp Gj gw nj) nj = (S j).2.1 := by rw [qLs_cp]; exact hLj.symm
                refine lv_aload_n hx hb dX8_add_57 rfl (lv_at hl 0 rfl) ?_
                refine q_get C hP hY rfl inX8 2 (by decide) g1169 rfl dX8_add_58 ?_
                refine lv_lload_n hx hb dX8_add_61 rfl (lv_at hl 3 rfl) ?_
                refine lv_lconst (v := 0) hx hb dX8_add_62 (by decide) ?_
                refine lv_aload_n hx hb dX8_add_63 rfl (lv_at hl 0 rfl) ?_
                refine q_get C hP hY rfl inX8 2 (by decide) g1169 rfl dX8_add_64 ?_
                refine q_get C hP faw rfl inX7 2 (by decide) g1142 rfl dX8_add_67 ?_
                refine lv_iconst (v := 2) hx hb dX8_add_70 (by decide) ?_
                refine lv_icmp_eq (tgt := 78) hx hb dX8_add_71 (by decide) (fun ck => ?_) (fun ck => ?_)
                · refine lv_iconst (v := nI 0) hx hb dX8_add_78 (by decide) ?_
                  refine q_callS (rest := []) C (c_X8_put l D cy N0 hv4 (ra 28) (rk 28) (rv 28) ((S j).1) (nI (S j).2.2.1) (nI (S j).2.2.2) rwj nj (qCp Fj fw nj) (qCp Gj gw nj) p2 0 0 ⟨hRw.1, hRw.2.1, hRw.2.2.1, faw, fkw, fvw⟩ (by omega) (by decide)) kX8_put g1276 g1277 hP hS (by first | decide | omega) hl.1 rfl (by decide) (by first | decide | omega) dX8_add_79 (fun q ce E h' H1 locs1 hE => hE.elim) (fun v hh8 H locs hq hP hS => ?_)
                  obtain ⟨rfl, hq⟩ := hq
                  rcases hq with ⟨hz9, j9, hj9, e9, m9, rfl⟩ | ⟨hno9, p9, hp9, hs9, ht9, rfl⟩
                  · obtain ⟨hv5, ehv5⟩ : ∃ z : qH, z = qRh cy hv4 (ra 28) (rk 28) (rv 28) ((S j).1) (nI nj) (nI (S j).2.2.1) (nI (S j).2.2.2) rwj (qCp Fj fw nj) (vp_updL (qCp Gj gw nj) j9 0) := ⟨_, rfl⟩
                    rw [← ehv5] at hP
                    have r9 : qRw cy hv5 (ra 28) (rk 28) (rv 28) ((S j).1) (nI nj) (nI (S j).2.2.1) (nI (S j).2.2.2) rwj (qCp Fj fw nj) (vp_updL (qCp Gj gw nj) j9 0) := by rw [ehv5]; exact qRw.new (cy := cy) (h := hv4) (kd := (S j).1) (n := (nI nj)) (sm := (nI (S j).2.2.1)) (dp := (nI (S j).2.2.2)) (rw := rwj) (f := (qCp Fj fw nj)) (g := (qCp Gj gw nj)) ⟨hRw.1, hRw.2.1, hRw.2.2.1, faw, fkw, fvw⟩
                    have khv5 : ∀ b o, qOf (ra 28) (rk 28) (rv 28) b → hv4 b = some o → hv5 b = some o := by rw [ehv5]; exact fun b o q hb => (qRh_o q.1 q.2.1 q.2.2).trans hb
                    replace hY := khv5 _ _ ⟨fun q => by rw [q] at hY; have := faw.symm.trans hY; first | cases this | simp at this, fun q => by rw [q] at hY; have := fkw.symm.trans hY; first | cases this | simp at this, fun q => by rw [q] at hY; have := fvw.symm.trans hY; first | cases this | simp at this⟩ hY
                    replace hms := khv5 _ _ ⟨fun q => by rw [q] at hms; have := faw.symm.trans hms; first | cases this | simp at this, fun q => by rw [q] at hms; have := fkw.symm.trans hms; first | cases this | simp at this, fun q => by rw [q] at hms; have := fvw.symm.trans hms; first | cases this | simp at this⟩ hms
                    replace hmb := khv5 _ _ ⟨fun q => by rw [q] at hmb; have := faw.symm.trans hmb; first | cases this | simp at this, fun q => by rw [q] at hmb; have := fkw.symm.trans hmb; first | cases this | simp at this, fun q => by rw [q] at hmb; have := fvw.symm.trans hmb; first | cases this | simp at this⟩ hmb
                    replace faj := khv5 _ _ apj.1 faj
                    replace fkj := khv5 _ _ apj.2.1 fkj
                    replace fvj := khv5 _ _ apj.2.2 fvj
                    replace fr := fun b o hb n1 n2 => khv5 b o n2 (fr b o hb n1 n2)
                    clear faw fkw fvw
                    have faw := r9.2.2.2.1
                    have fkw := r9.2.2.2.2.1
                    have fvw := r9.2.2.2.2.2
                    unfold qRb at faw
                    unfold qJr at fkw fvw
                    clear r9 ehv5
                    replace lw : qLs ((S j).1) (qCp Fj fw nj) (vp_updL (qCp Gj gw nj) j9 0) nj = xPut ((S j).1) false ((S j).2.1) p2 (xV ((S j).1) 0) := by rw [qLs_re (lw ▸ (hI j (by omega)).2.1 (Or.inr (Or.inl ck))) hj9 e9, lw, xPut, if_pos ⟨rfl, by rw [← lw]; exact xHas_t hj9 e9⟩]
                    refine lv_aload_n hx hb dX8_add_82 rfl (lv_at hl 0 rfl) ?_
                    refine lv_aload_n hx hb dX8_add_83 rfl (lv_at hl 0 rfl) ?_
                    refine q_get C hP hY rfl inX8 2 (by decide) g1169 rfl dX8_add_84 ?_
                    refine q_get C hP faw rfl inX7 3 (by decide) g1143 rfl dX8_add_87 ?_
                    refine lv_sipush (v := nI 1000) hx hb dX8_add_90 (by decide) ?_
                    refine lv_icmp_gt (tgt := 112) hx hb dX8_add_93 (by decide) (fun c93 => ?_) (fun c93 => ?_)
                    · replace c93 : 1000 < nj := (nI_ltI (a := 1000) (b := nj) (by omega) (by omega)).mp c93
                      refine lv_iconst (v := nI 0) hx hb dX8_add_112 (by decide) ?_
                      refine lv_iconst (v := nI 3) hx hb dX8_add_113 (by decide) ?_
                      refine q_callV (rest := []) C (c_X8_good0 l D cy N0 hv5 y ms mb (ra 28) od pt fi re rc rs so ot cn la ro gr 0 ca mv ct fau cs ce rn (nI 3) hY) kX8_good g1249 g1251 rfl gp41 g4 hP hS hY (by first | decide | omega) hl.1 rfl (by decide) (by first | decide | omega) dX8_add_114 (fun q ce E h' H1 locs1 hE => hE.elim) (fun v hh9 H locs hq hP hS => ?_)
                      obtain ⟨rfl, rfl⟩ := hq
                      replace hP : qP D N0 (qs hv5 y (.inr (8, [.ref ms, .ref mb, .ref (ra 28), .int gr, .int (nI 3), .int ca, .int mv, .ref od, .ref pt, .int ct, .int fau, .ref fi, .ref re, .int cs, .ref rc, .ref rs, .ref so, .ref ot, .ref cn, .ref la, .int ce, .ref ro, .int rn]))) H := hP
                      obtain ⟨hv6, ehv6⟩ : ∃ z : qH, z = qs hv5 y (.inr (8, [.ref ms, .ref mb, .ref (ra 28), .int gr, .int (nI 3), .int ca, .int mv, .ref od, .ref pt, .int ct, .int fau, .ref fi, .ref re, .int cs, .ref rc, .ref rs, .ref so, .ref ot, .ref cn, .ref la, .int ce, .ref ro, .int rn])) := ⟨_, rfl⟩
                      rw [← ehv6] at hP
                      have khv6 : ∀ b o, b ≠ y → hv5 b = some o → hv6 b = some o := by rw [ehv6]; exact fun b o nb hb => (qs_ne nb).trans hb
                      replace hms := khv6 _ _ (fun q => by subst q; have := hms.symm.trans hY; first | cases this | simp at this) hms
                      replace hmb := khv6 _ _ (fun q => by subst q; have := hmb.symm.trans hY; first | cases this | simp at this) hmb
                      replace faw := khv6 _ _ (fun q => by have z9 := faw; rw [q] at z9; have := z9.symm.trans hY; first | cases this | simp at this) faw
                      replace fkw := khv6 _ _ (fun q => by have z9 := fkw; rw [q] at z9; have := z9.symm.trans hY; first | cases this | simp at this) fkw
                      replace fvw := khv6 _ _ (fun q => by have z9 := fvw; rw [q] at z9; have := z9.symm.trans hY; first | cases this | simp at this) fvw
                      replace faj := khv6 _ _ (fun q => by have z9 := faj; rw [q] at z9; have := z9.symm.trans hY; first | cases this | simp at this) faj
                      replace fkj := khv6 _ _ (fun q => by have z9 := fkj; rw [q] at z9; have := z9.symm.trans hY; first | cases this | simp at this) fkj
                      replace fvj := khv6 _ _ (fun q => by have z9 := fvj; rw [q] at z9; have := z9.symm.trans hY; first | cases this | simp at this) fvj
                      replace hY : hv6 y = some (.inr (8, [.ref ms, .ref mb, .ref (ra 28), .int gr, .int (nI 3), .int ca, .int mv, .ref od, .ref pt, .int ct, .int fau, .ref fi, .ref re, .int cs, .ref rc, .ref rs, .ref so, .ref ot, .ref cn, .ref la, .int ce, .ref ro, .int rn])) := by rw [ehv6]; exact qs_self
                      clear ehv6
                      replace fr := fun b o hb n1 n2 => khv6 b o n1 (fr b o hb n1 n2)
                      refine lv_if_ne (tgt := 122) hx hb dX8_add_117 (by decide) (fun c117 => ?_) (fun c117 => ?_)
                      · replace c117 : ¬ 0 = 0 := fun zq => c117 ((nI_eq (a := 0) (b := 0) (by omega) (by omega)).mpr zq)
                        exfalso; omega
                      · replace c117 : 0 = 0 := (nI_eq (a := 0) (b := 0) (by omega) (by omega)).mp c117
                        refine lv_iconst (v := nI 0) hx hb dX8_add_120 (by decide) ?_
                        have ed : (xPut (S j).1 (decide (¬ (S j).1 = 2)) (S j).2.1 p2 0) = (xPut ((S j).1) false ((S j).2.1) p2 (xV ((S j).1) 0)) := by rw [show decide (¬ (S j).1 = 2) = false from by simp [ck]]; first | rfl | (rw [show xV (S j).1 0 = 0 from by unfold xV; split <;> rfl])
                        have el : (xPut ((S j).1) false ((S j).2.1) p2 (xV ((S j).1) 0)).length = nj := by rw [← lw, qLs_len]
                        have ex : xs_add gr S (nI i) (nI j) p2 = (3, S, 0) := by (unfold xs_add; rw [if_neg (by simp [ebi, ebj]), ecj, if_neg (by simp [hoj]), ed, if_pos (by first | exact Or.inl (by omega) | exact Or.inr cr)])
                        obtain ⟨m9, f9⟩ := hM.fin0 hY0 (h' := hv6) ⟨hRw.1, hRw.2.1, hRw.2.2.1, faw, fkw, fvw⟩ fr
                        exact q_iret C hP hS ⟨by first | (rw [ex]; done) | (rw [ex]; rfl), by rw [ex]; exact hY, by first | exact m9 | (rw [ex]; exact m9), f9⟩ (by omega) dX8_add_121
                    · replace c93 : ¬ 1000 < nj := fun zq => c93 ((nI_ltI (a := 1000) (b := nj) (by omega) (by omega)).mpr zq)
                      refine lv_aload_n hx hb dX8_add_96 rfl (lv_at hl 0 rfl) ?_
                      refine lv_aload_n hx hb dX8_add_97 rfl (lv_at hl 0 rfl) ?_
                      refine q_get C hP hY rfl inX8 2 (by decide) g1169 rfl dX8_add_98 ?_
                      refine lv_lload_n hx hb dX8_add_101 rfl (lv_at hl 3 rfl) ?_
                      refine q_callV (rest := [.ref y]) C (c_X8_crowded l D cy N0 hv5 y ms mb (ra 28) od pt fi re rc rs so ot cn la ro gr 0 ca mv ct fau cs ce rn (ra 28) (rk 28) (rv 28) ((S j).1) (nI (S j).2.2.1) (nI (S j).2.2.2) rwj nj (qCp Fj fw nj) (vp_updL (qCp Gj gw nj) j9 0) p2 hY ⟨hRw.1, hRw.2.1, hRw.2.2.1, faw, fkw, fvw⟩ (by omega)) kX8_crowded g1285 g1287 rfl gp43 g4 hP hS hY (by first | decide | omega) hl.1 rfl (by simp [q_catrf, q_cati, q_catl, q_cata, q_catn]) (by first | decide | omega) dX8_add_102 (fun q ce E h' H1 locs1 hE => hE.elim) (fun v hh10 H locs hq hP hS => ?_)
                      obtain ⟨rfl, rfl⟩ := hq
                      rw [xAl_row (kd := (S j).1) (g := (vp_updL (qCp Gj gw nj) j9 0)), lw]
                      by_cases cr : 16 < xAl gr (xPut ((S j).1) false ((S j).2.1) p2 (xV ((S j).1) 0)) p2 ∧ (((S j).1) = 1 ∨ ((S j).1) = 2)
                      · rw [if_pos cr]
                        refine lv_if_ne (tgt := 112) hx hb dX8_add_105 (by decide) (fun c105 => ?_) (fun c105 => ?_)
                        · replace c105 : ¬ 1 = 0 := fun zq => c105 ((nI_eq (a := 1) (b := 0) (by omega) (by omega)).mpr zq)
                          refine lv_iconst (v := nI 0) hx hb dX8_add_112 (by decide) ?_
                          refine lv_iconst (v := nI 3) hx hb dX8_add_113 (by decide) ?_
                          refine q_callV (rest := []) C (c_X8_good0 l D cy N0 hv5 y ms mb (ra 28) od pt fi re rc rs so ot cn la ro gr 0 ca mv ct fau cs ce rn (nI 3) hY) kX8_good g1249 g1251 rfl gp41 g4 hP hS hY (by first | decide | omega) hl.1 rfl (by decide) (by first | decide | omega) dX8_add_114 (fun q ce E h' H1 locs1 hE => hE.elim) (fun v hh11 H locs hq hP hS => ?_)
                          obtain ⟨rfl, rfl⟩ := hq
                          replace hP : qP D N0 (qs hv5 y (.inr (8, [.ref ms, .ref mb, .ref (ra 28), .int gr, .int (nI 3), .int ca, .int mv, .ref od, .ref pt, .int ct, .int fau, .ref fi, .ref re, .int cs, .ref rc, .ref rs, .ref so, .ref ot, .ref cn, .ref la, .int ce, .ref ro, .int rn]))) H := hP
                          obtain ⟨hv7, ehv7⟩ : ∃ z : qH, z = qs hv5 y (.inr (8, [.ref ms, .ref mb, .ref (ra 28), .int gr, .int (nI 3), .int ca, .int mv, .ref od, .ref pt, .int ct, .int fau, .ref fi, .ref re, .int cs, .ref rc, .ref rs, .ref so, .ref ot, .ref cn, .ref la, .int ce, .ref ro, .int rn])) := ⟨_, rfl⟩
                          rw [← ehv7] at hP
                          have khv7 : ∀ b o, b ≠ y → hv5 b = some o → hv7 b = some o := by rw [ehv7]; exact fun b o nb hb => (qs_ne nb).trans hb
                          replace hms := khv7 _ _ (fun q => by subst q; have := hms.symm.trans hY; first | cases this | simp at this) hms
                          replace hmb := khv7 _ _ (fun q => by subst q; have := hmb.symm.trans hY; first | cases this | simp at this) hmb
                          replace faw := khv7 _ _ (fun q => by have z9 := faw; rw [q] at z9; have := z9.symm.trans hY; first | cases this | simp at this) faw
                          replace fkw := khv7 _ _ (fun q => by have z9 := fkw; rw [q] at z9; have := z9.symm.trans hY; first | cases this | simp at this) fkw
                          replace fvw := khv7 _ _ (fun q => by have z9 := fvw; rw [q] at z9; have := z9.symm.trans hY; first | cases this | simp at this) fvw
                          replace faj := khv7 _ _ (fun q => by have z9 := faj; rw [q] at z9; have := z9.symm.trans hY; first | cases this | simp at this) faj
                          replace fkj := khv7 _ _ (fun q => by have z9 := fkj; rw [q] at z9; have := z9.symm.trans hY; first | cases this | simp at this) fkj
                          replace fvj := khv7 _ _ (fun q => by have z9 := fvj; rw [q] at z9; have := z9.symm.trans hY; first | cases this | simp at this) fvj
                          replace hY : hv7 y = some (.inr (8, [.ref ms, .ref mb, .ref (ra 28), .int gr, .int (nI 3), .int ca, .int mv, .ref od, .ref pt, .int ct, .int fau, .ref fi, .ref re, .int cs, .ref rc, .ref rs, .ref so, .ref ot, .ref cn, .ref la, .int ce, .ref ro, .int rn])) := by rw [ehv7]; exact qs_self
                          clear ehv7
                          replace fr := fun b o hb n1 n2 => khv7 b o n1 (fr b o hb n1 n2)
                          refine lv_if_ne (tgt := 122) hx hb dX8_add_117 (by decide) (fun c117 => ?_) (fun c117 => ?_)
                          · replace c117 : ¬ 0 = 0 := fun zq => c117 ((nI_eq (a := 0) (b := 0) (by omega) (by omega)).mpr zq)
                            exfalso; omega
                          · replace c117 : 0 = 0 := (nI_eq (a := 0) (b := 0) (by omega) (by omega)).mp c117
                            refine lv_iconst (v := nI 0) hx hb dX8_add_120 (by decide) ?_
                            have ed : (xPut (S j).1 (decide (¬ (S j).1 = 2)) (S j).2.1 p2 0) = (xPut ((S j).1) false ((S j).2.1) p2 (xV ((S j).1) 0)) := by rw [show decide (¬ (S j).1 = 2) = false from by simp [ck]]; first | rfl | (rw [show xV (S j).1 0 = 0 from by unfold xV; split <;> rfl])
                            have el : (xPut ((S j).1) false ((S j).2.1) p2 (xV ((S j).1) 0)).length = nj := by rw [← lw, qLs_len]
                            have ex : xs_add gr S (nI i) (nI j) p2 = (3, S, 0) := by (unfold xs_add; rw [if_neg (by simp [ebi, ebj]), ecj, if_neg (by simp [hoj]), ed, if_pos (by first | exact Or.inl (by omega) | exact Or.inr cr)])
                            obtain ⟨m9, f9⟩ := hM.fin0 hY0 (h' := hv7) ⟨hRw.1, hRw.2.1, hRw.2.2.1, faw, fkw, fvw⟩ fr
                            exact q_iret C hP hS ⟨by first | (rw [ex]; done) | (rw [ex]; rfl), by rw [ex]; exact hY, by first | exact m9 | (rw [ex]; exact m9), f9⟩ (by omega) dX8_add_121
                        · replace c105 : 1 = 0 := (nI_eq (a := 1) (b := 0) (by omega) (by omega)).mp c105
                          exfalso; omega
                      · rw [if_neg cr]
                        refine lv_if_ne (tgt := 112) hx hb dX8_add_105 (by decide) (fun c105 => ?_) (fun c105 => ?_)
                        · replace c105 : ¬ 0 = 0 := fun zq => c105 ((nI_eq (a := 0) (b := 0) (by omega) (by omega)).mpr zq)
                          exfalso; omega
                        · replace c105 : 0 = 0 := (nI_eq (a := 0) (b := 0) (by omega) (by omega)).mp c105
                          refine lv_iconst (v := nI 1) hx hb dX8_add_108 (by decide) ?_
                          refine lv_goto (tgt := 113) hx hb dX8_add_109 (by decide) ?_
                          refine lv_iconst (v := nI 3) hx hb dX8_add_113 (by decide) ?_
                          refine q_callV (rest := []) C (c_X8_good1 l D cy N0 hv5 y ms mb (ra 28) od pt fi re rc rs so ot cn la ro gr 0 ca mv ct fau cs ce rn (nI 3) hY) kX8_good g1249 g1251 rfl gp41 g4 hP hS hY (by first | decide | omega) hl.1 rfl (by decide) (by first | decide | omega) dX8_add_114 (fun q ce E h' H1 locs1 hE => hE.elim) (fun v hh12 H locs hq hP hS => ?_)
                          obtain ⟨rfl, rfl⟩ := hq
                          replace hP : qP D N0 (qs hv5 y (.inr (8, [.ref ms, .ref mb, .ref (ra 28), .int gr, .int 0, .int ca, .int mv, .ref od, .ref pt, .int ct, .int fau, .ref fi, .ref re, .int cs, .ref rc, .ref rs, .ref so, .ref ot, .ref cn, .ref la, .int ce, .ref ro, .int rn]))) H := hP
                          obtain ⟨hv8, ehv8⟩ : ∃ z : qH, z = qs hv5 y (.inr (8, [.ref ms, .ref mb, .ref (ra 28), .int gr, .int 0, .int ca, .int mv, .ref od, .ref pt, .int ct, .int fau, .ref fi, .ref re, .int cs, .ref rc, .ref rs, .ref so, .ref ot, .ref cn, .ref la, .int ce, .ref ro, .int rn])) := ⟨_, rfl⟩
                          rw [← ehv8] at hP
                          have khv8 : ∀ b o, b ≠ y → hv5 b = some o → hv8 b = some o := by rw [ehv8]; exact fun b o nb hb => (qs_ne nb).trans hb
                          replace hms := khv8 _ _ (fun q => by subst q; have := hms.symm.trans hY; first | cases this | simp at this) hms
                          replace hmb := khv8 _ _ (fun q => by subst q; have := hmb.symm.trans hY; first | cases this | simp at this) hmb
                          replace faw := khv8 _ _ (fun q => by have z9 := faw; rw [q] at z9; have := z9.symm.trans hY; first | cases this | simp at this) faw
                          replace fkw := khv8 _ _ (fun q => by have z9 := fkw; rw [q] at z9; have := z9.symm.trans hY; first | cases this | simp at this) fkw
                          replace fvw := khv8 _ _ (fun q => by have z9 := fvw; rw [q] at z9; have := z9.symm.trans hY; first | cases this | simp at this) fvw
                          replace faj := khv8 _ _ (fun q => by have z9 := faj; rw [q] at z9; have := z9.symm.trans hY; first | cases this | simp at this) faj
                          replace fkj := khv8 _ _ (fun q => by have z9 := fkj; rw [q] at z9; have := z9.symm.trans hY; first | cases this | simp at this) fkj
                          replace fvj := khv8 _ _ (fun q => by have z9 := fvj; rw [q] at z9; have := z9.symm.trans hY; first | cases this | simp at this) fvj
                          replace hY : hv8 y = some (.inr (8, [.ref ms, .ref mb, .ref (ra 28), .int gr, .int 0, .int ca, .int mv, .ref od, .ref pt, .int ct, .int fau, .ref fi, .ref re, .int cs, .ref rc, .ref rs, .ref so, .ref ot, .ref cn, .ref la, .int ce, .ref ro, .int rn])) := by rw [ehv8]; exact qs_self
                          clear ehv8
                          replace fr := fun b o hb n1 n2 => khv8 b o n1 (fr b o hb n1 n2)
                          refine lv_if_ne (tgt := 122) hx hb dX8_add_117 (by decide) (fun c117 => ?_) (fun c117 => ?_)
                          · replace c117 : ¬ 1 = 0 := fun zq => c117 ((nI_eq (a := 1) (b := 0) (by omega) (by omega)).mpr zq)
                            refine lv_aload_n hx hb dX8_add_122 rfl (lv_at hl 0 rfl) ?_
                            refine lv_iload_n hx hb dX8_add_123 rfl (lv_at hl 1 rfl) ?_
                            refine lv_iconst (v := nI 0) hx hb dX8_add_124 (by decide) ?_
                            obtain ⟨ni, rwi, Fi, Gi, hRi, hni, hLi, hKi⟩ := hrs i (by omega)
                            have api := hRi.apart hRw (hmd.two (i := i) (j := 28) (by omega) (by omega) (by omega))
                            replace hRi := hRi.keep2 (fun b o hb ho => fr b o ho (hRi.ney hY0 hb) (hb.elim (fun q => q ▸ api.1) (fun hb => hb.elim (fun q => q ▸ api.2.1) (fun q => q ▸ api.2.2))))
                            have fai := hRi.2.2.2.1
                            have fki := hRi.2.2.2.2.1
                            have fvi := hRi.2.2.2.2.2
                            unfold qRb at fai
                            unfold qJr at fki fvi
                            refine q_callV (rest := []) C (c_X8_done l D cy N0 hv8 y ms mb od pt fi re rc rs so ot cn la ro gr 0 ca mv ct fau cs ce rn ra rk rv i (nI 0) (S j).1 (nI (S j).2.2.1) (nI (S j).2.2.2) rwj nj (qCp Fj fw nj) (vp_updL (qCp Gj gw nj) j9 0) (S i).1 (nI (S i).2.2.1) (nI (S i).2.2.2) rwi ni Fi Gi hY hms hmd ⟨hRw.1, hRw.2.1, hRw.2.2.1, faw, fkw, fvw⟩ ⟨hRi.1, hRi.2.1, hRi.2.2.1, fai, fki, fvi⟩ (by omega) (by omega)) kX8_done g1293 g1295 rfl gp45 g4 hP hS hY (by first | decide | omega) hl.1 rfl (by decide) (by first | decide | omega) dX8_add_125 (fun q ce E h' H1 locs1 hE => hE.elim) (fun v hh13 H locs hq hP hS => ?_)
                            obtain ⟨rfl, hY9, hw9, hi9, fr9⟩ := hq
                            replace fr := fun b o hb n1 n2 n3 => fr9 b o (fr b o hb n1 n2) n1 n2 n3
                            rw [show mv + nI 0 = mv from Int32.add_zero _] at hY9
                            have ed : (xPut (S j).1 (decide (¬ (S j).1 = 2)) (S j).2.1 p2 0) = (xPut ((S j).1) false ((S j).2.1) p2 (xV ((S j).1) 0)) := by rw [show decide (¬ (S j).1 = 2) = false from by simp [ck]]; first | rfl | (rw [show xV (S j).1 0 = 0 from by unfold xV; split <;> rfl])
                            have el : (xPut ((S j).1) false ((S j).2.1) p2 (xV ((S j).1) 0)).length = nj := by rw [← lw, qLs_len]
                            have ex : xs_add gr S (nI i) (nI j) p2 = (0, qU S i ((S j).1, (xPut ((S j).1) false ((S j).2.1) p2 (xV ((S j).1) 0)), (S j).2.2), nI nj) := by (unfold xs_add; rw [if_neg (by simp [ebi, ebj]), ecj, if_neg (by simp [hoj]), ed, if_neg (fun z => by rcases z with z | z <;> first | omega | exact cr z), eci, el])
                            obtain ⟨m9, f9⟩ := hM.fin hY0 (i := i) (by omega) (s := ((S j).1, (xPut ((S j).1) false ((S j).2.1) p2 (xV ((S j).1) 0)), (S j).2.2.1, (S j).2.2.2)) ⟨nj, _, _, _, hi9, by omega, by rw [qLs_cp]; exact lw.symm, Or.inl rfl⟩ hw9 fr
                            exact q_iret C hP hS ⟨by first | (rw [ex]; done) | (rw [ex]; rfl), by rw [ex]; exact hY9, by first | exact m9 | (rw [ex]; exact m9), f9⟩ (by omega) dX8_add_128
                          · replace c117 : 1 = 0 := (nI_eq (a := 1) (b := 0) (by omega) (by omega)).mp c117
                            exfalso; omega
                  · obtain ⟨hv9, ehv9⟩ : ∃ z : qH, z = qRh cy hv4 (ra 28) (rk 28) (rv 28) ((S j).1) (nI (nj + 1)) (nI (S j).2.2.1) (nI (S j).2.2.2) rwj (vp_updL (qSh (qCp Fj fw nj) p9 nj) p9 p2) (vp_updL (qSh (qCp Gj gw nj) p9 nj) p9 0) := ⟨_, rfl⟩
                    rw [← ehv9] at hP
                    have r9 : qRw cy hv9 (ra 28) (rk 28) (rv 28) ((S j).1) (nI (nj + 1)) (nI (S j).2.2.1) (nI (S j).2.2.2) rwj (vp_updL (qSh (qCp Fj fw nj) p9 nj) p9 p2) (vp_updL (qSh (qCp Gj gw nj) p9 nj) p9 0) := by rw [ehv9]; exact qRw.new (cy := cy) (h := hv4) (kd := (S j).1) (n := (nI nj)) (sm := (nI (S j).2.2.1)) (dp := (nI (S j).2.2.2)) (rw := rwj) (f := (qCp Fj fw nj)) (g := (qCp Gj gw nj)) ⟨hRw.1, hRw.2.1, hRw.2.2.1, faw, fkw, fvw⟩
                    have khv9 : ∀ b o, qOf (ra 28) (rk 28) (rv 28) b → hv4 b = some o → hv9 b = some o := by rw [ehv9]; exact fun b o q hb => (qRh_o q.1 q.2.1 q.2.2).trans hb
                    replace hY := khv9 _ _ ⟨fun q => by rw [q] at hY; have := faw.symm.trans hY; first | cases this | simp at this, fun q => by rw [q] at hY; have := fkw.symm.trans hY; first | cases this | simp at this, fun q => by rw [q] at hY; have := fvw.symm.trans hY; first | cases this | simp at this⟩ hY
                    replace hms := khv9 _ _ ⟨fun q => by rw [q] at hms; have := faw.symm.trans hms; first | cases this | simp at this, fun q => by rw [q] at hms; have := fkw.symm.trans hms; first | cases this | simp at this, fun q => by rw [q] at hms; have := fvw.symm.trans hms; first | cases this | simp at this⟩ hms
                    replace hmb := khv9 _ _ ⟨fun q => by rw [q] at hmb; have := faw.symm.trans hmb; first | cases this | simp at this, fun q => by rw [q] at hmb; have := fkw.symm.trans hmb; first | cases this | simp at this, fun q => by rw [q] at hmb; have := fvw.symm.trans hmb; first | cases this | simp at this⟩ hmb
                    replace faj := khv9 _ _ apj.1 faj
                    replace fkj := khv9 _ _ apj.2.1 fkj
                    replace fvj := khv9 _ _ apj.2.2 fvj
                    replace fr := fun b o hb n1 n2 => khv9 b o n2 (fr b o hb n1 n2)
                    clear faw fkw fvw
                    have faw := r9.2.2.2.1
                    have fkw := r9.2.2.2.2.1
                    have fvw := r9.2.2.2.2.2
                    unfold qRb at faw
                    unfold qJr at fkw fvw
                    clear r9 ehv9
                    replace lw : qLs ((S j).1) (vp_updL (qSh (qCp Fj fw nj) p9 nj) p9 p2) (vp_updL (qSh (qCp Gj gw nj) p9 nj) p9 0) (nj + 1) = xPut ((S j).1) false ((S j).2.1) p2 (xV ((S j).1) 0) := by
                      rw [xPut, if_neg (fun q => by have := q.2; rw [← lw, xHas_f (hno9.resolve_right (by decide))] at this; cases this), qLs_ins hp9]
                      by_cases z9 : ((S j).1) = 3 ∨ ((S j).1) = 5
                      · rw [if_pos z9, ← lw]; exact xSi_row (lw ▸ (hI j (by omega)).1 z9) hp9 (hs9 z9).1 (hs9 z9).2
                      · rw [if_neg z9, ht9 z9, lw, List.take_of_length_le (by rw [← lw, qLs_len]; omega), List.drop_of_length_le (by rw [← lw, qLs_len]; omega)]
                    refine lv_aload_n hx hb dX8_add_82 rfl (lv_at hl 0 rfl) ?_
                    refine lv_aload_n hx hb dX8_add_83 rfl (lv_at hl 0 rfl) ?_
                    refine q_get C hP hY rfl inX8 2 (by decide) g1169 rfl dX8_add_84 ?_
                    refine q_get C hP faw rfl inX7 3 (by decide) g1143 rfl dX8_add_87 ?_
                    refine lv_sipush (v := nI 1000) hx hb dX8_add_90 (by decide) ?_
                    refine lv_icmp_gt (tgt := 112) hx hb dX8_add_93 (by decide) (fun c93 => ?_) (fun c93 => ?_)
                    · replace c93 : 1000 < (nj + 1) := (nI_ltI (a := 1000) (b := (nj + 1)) (by omega) (by omega)).mp c93
                      refine lv_iconst (v := nI 0) hx hb dX8_add_112 (by decide) ?_
                      refine lv_iconst (v := nI 3) hx hb dX8_add_113 (by decide) ?_
                      refine q_callV (rest := []) C (c_X8_good0 l D cy N0 hv9 y ms mb (ra 28) od pt fi re rc rs so ot cn la ro gr 0 ca mv ct fau cs ce rn (nI 3) hY) kX8_good g1249 g1251 rfl gp41 g4 hP hS hY (by first | decide | omega) hl.1 rfl (by decide) (by first | decide | omega) dX8_add_114 (fun q ce E h' H1 locs1 hE => hE.elim) (fun v hh14 H locs hq hP hS => ?_)
                      obtain ⟨rfl, rfl⟩ := hq
                      replace hP : qP D N0 (qs hv9 y (.inr (8, [.ref ms, .ref mb, .ref (ra 28), .int gr, .int (nI 3), .int ca, .int mv, .ref od, .ref pt, .int ct, .int fau, .ref fi, .ref re, .int cs, .ref rc, .ref rs, .ref so, .ref ot, .ref cn, .ref la, .int ce, .ref ro, .int rn]))) H := hP
                      obtain ⟨hv10, ehv10⟩ : ∃ z : qH, z = qs hv9 y (.inr (8, [.ref ms, .ref mb, .ref (ra 28), .int gr, .int (nI 3), .int ca, .int mv, .ref od, .ref pt, .int ct, .int fau, .ref fi, .ref re, .int cs, .ref rc, .ref rs, .ref so, .ref ot, .ref cn, .ref la, .int ce, .ref ro, .int rn])) := ⟨_, rfl⟩
                      rw [← ehv10] at hP
                      have khv10 : ∀ b o, b ≠ y → hv9 b = some o → hv10 b = some o := by rw [ehv10]; exact fun b o nb hb => (qs_ne nb).trans hb
                      replace hms := khv10 _ _ (fun q => by subst q; have := hms.symm.trans hY; first | cases this | simp at this) hms
                      replace hmb := khv10 _ _ (fun q => by subst q; have := hmb.symm.trans hY; first | cases this | simp at this) hmb
                      replace faw := khv10 _ _ (fun q => by have z9 := faw; rw [q] at z9; have := z9.symm.trans hY; first | cases this | simp at this) faw
                      replace fkw := khv10 _ _ (fun q => by have z9 := fkw; rw [q] at z9; have := z9.symm.trans hY; first | cases this | simp at this) fkw
                      replace fvw := khv10 _ _ (fun q => by have z9 := fvw; rw [q] at z9; have := z9.symm.trans hY; first | cases this | simp at this) fvw
                      replace faj := khv10 _ _ (fun q => by have z9 := faj; rw [q] at z9; have := z9.symm.trans hY; first | cases this | simp at this) faj
                      replace fkj := khv10 _ _ (fun q => by have z9 := fkj; rw [q] at z9; have := z9.symm.trans hY; first | cases this | simp at this) fkj
                      replace fvj := khv10 _ _ (fun q => by have z9 := fvj; rw [q] at z9; have := z9.symm.trans hY; first | cases this | simp at this) fvj
                      replace hY : hv10 y = some (.inr (8, [.ref ms, .ref mb, .ref (ra 28), .int gr, .int (nI 3), .int ca, .int mv, .ref od, .ref pt, .int ct, .int fau, .ref fi, .ref re, .int cs, .ref rc, .ref rs, .ref so, .ref ot, .ref cn, .ref la, .int ce, .ref ro, .int rn])) := by rw [ehv10]; exact qs_self
                      clear ehv10
                      replace fr := fun b o hb n1 n2 => khv10 b o n1 (fr b o hb n1 n2)
                      refine lv_if_ne (tgt := 122) hx hb dX8_add_117 (by decide) (fun c117 => ?_) (fun c117 => ?_)
                      · replace c117 : ¬ 0 = 0 := fun zq => c117 ((nI_eq (a := 0) (b := 0) (by omega) (by omega)).mpr zq)
                        exfalso; omega
                      · replace c117 : 0 = 0 := (nI_eq (a := 0) (b := 0) (by omega) (by omega)).mp c117
                        refine lv_iconst (v := nI 0) hx hb dX8_add_120 (by decide) ?_
                        have ed : (xPut (S j).1 (decide (¬ (S j).1 = 2)) (S j).2.1 p2 0) = (xPut ((S j).1) false ((S j).2.1) p2 (xV ((S j).1) 0)) := by rw [show decide (¬ (S j).1 = 2) = false from by simp [ck]]; first | rfl | (rw [show xV (S j).1 0 = 0 from by unfold xV; split <;> rfl])
                        have el : (xPut ((S j).1) false ((S j).2.1) p2 (xV ((S j).1) 0)).length = (nj + 1) := by rw [← lw, qLs_len]
                        have ex : xs_add gr S (nI i) (nI j) p2 = (3, S, 0) := by (unfold xs_add; rw [if_neg (by simp [ebi, ebj]), ecj, if_neg (by simp [hoj]), ed, if_pos (by first | exact Or.inl (by omega) | exact Or.inr cr)])
                        obtain ⟨m9, f9⟩ := hM.fin0 hY0 (h' := hv10) ⟨hRw.1, hRw.2.1, hRw.2.2.1, faw, fkw, fvw⟩ fr
                        exact q_iret C hP hS ⟨by first | (rw [ex]; done) | (rw [ex]; rfl), by rw [ex]; exact hY, by first | exact m9 | (rw [ex]; exact m9), f9⟩ (by omega) dX8_add_121
                    · replace c93 : ¬ 1000 < (nj + 1) := fun zq => c93 ((nI_ltI (a := 1000) (b := (nj + 1)) (by omega) (by omega)).mpr zq)
                      refine lv_aload_n hx hb dX8_add_96 rfl (lv_at hl 0 rfl) ?_
                      refine lv_aload_n hx hb dX8_add_97 rfl (lv_at hl 0 rfl) ?_
                      refine q_get C hP hY rfl inX8 2 (by decide) g1169 rfl dX8_add_98 ?_
                      refine lv_lload_n hx hb dX8_add_101 rfl (lv_at hl 3 rfl) ?_
                      refine q_callV (rest := [.ref y]) C (c_X8_crowded l D cy N0 hv9 y ms mb (ra 28) od pt fi re rc rs so ot cn la ro gr 0 ca mv ct fau cs ce rn (ra 28) (rk 28) (rv 28) ((S j).1) (nI (S j).2.2.1) (nI (S j).2.2.2) rwj (nj + 1) (vp_updL (qSh (qCp Fj fw nj) p9 nj) p9 p2) (vp_updL (qSh (qCp Gj gw nj) p9 nj) p9 0) p2 hY ⟨hRw.1, hRw.2.1, hRw.2.2.1, faw, fkw, fvw⟩ (by omega)) kX8_crowded g1285 g1287 rfl gp43 g4 hP hS hY (by first | decide | omega) hl.1 rfl (by simp [q_catrf, q_cati, q_catl, q_cata, q_catn]) (by first | decide | omega) dX8_add_102 (fun q ce E h' H1 locs1 hE => hE.elim) (fun v hh15 H locs hq hP hS => ?_)
                      obtain ⟨rfl, rfl⟩ := hq
                      rw [xAl_row (kd := (S j).1) (g := (vp_updL (qSh (qCp Gj gw nj) p9 nj) p9 0)), lw]
                      by_cases cr : 16 < xAl gr (xPut ((S j).1) false ((S j).2.1) p2 (xV ((S j).1) 0)) p2 ∧ (((S j).1) = 1 ∨ ((S j).1) = 2)
                      · rw [if_pos cr]
                        refine lv_if_ne (tgt := 112) hx hb dX8_add_105 (by decide) (fun c105 => ?_) (fun c105 => ?_)
                        · replace c105 : ¬ 1 = 0 := fun zq => c105 ((nI_eq (a := 1) (b := 0) (by omega) (by omega)).mpr zq)
                          refine lv_iconst (v := nI 0) hx hb dX8_add_112 (by decide) ?_
                          refine lv_iconst (v := nI 3) hx hb dX8_add_113 (by decide) ?_
                          refine q_callV (rest := []) C (c_X8_good0 l D cy N0 hv9 y ms mb (ra 28) od pt fi re rc rs so ot cn la ro gr 0 ca mv ct fau cs ce rn (nI 3) hY) kX8_good g1249 g1251 rfl gp41 g4 hP hS hY (by first | decide | omega) hl.1 rfl (by decide) (by first | decide | omega) dX8_add_114 (fun q ce E h' H1 locs1 hE => hE.elim) (fun v hh16 H locs hq hP hS => ?_)
                          obtain ⟨rfl, rfl⟩ := hq
                          replace hP : qP D N0 (qs hv9 y (.inr (8, [.ref ms, .ref mb, .ref (ra 28), .int gr, .int (nI 3), .int ca, .int mv, .ref od, .ref pt, .int ct, .int fau, .ref fi, .ref re, .int cs, .ref rc, .ref rs, .ref so, .ref ot, .ref cn, .ref la, .int ce, .ref ro, .int rn]))) H := hP
                          obtain ⟨hv11, ehv11⟩ : ∃ z : qH, z = qs hv9 y (.inr (8, [.ref ms, .ref mb, .ref (ra 28), .int gr, .int (nI 3), .int ca, .int mv, .ref od, .ref pt, .int ct, .int fau, .ref fi, .ref re, .int cs, .ref rc, .ref rs, .ref so, .ref ot, .ref cn, .ref la, .int ce, .ref ro, .int rn])) := ⟨_, rfl⟩
                          rw [← ehv11] at hP
                          have khv11 : ∀ b o, b ≠ y → hv9 b = some o → hv11 b = some o := by rw [ehv11]; exact fun b o nb hb => (qs_ne nb).trans hb
                          replace hms := khv11 _ _ (fun q => by subst q; have := hms.symm.trans hY; first | cases this | simp at this) hms
                          replace hmb := khv11 _ _ (fun q => by subst q; have := hmb.symm.trans hY; first | cases this | simp at this) hmb
                          replace faw := khv11 _ _ (fun q => by have z9 := faw; rw [q] at z9; have := z9.symm.trans hY; first | cases this | simp at this) faw
                          replace fkw := khv11 _ _ (fun q => by have z9 := fkw; rw [q] at z9; have := z9.symm.trans hY; first | cases this | simp at this) fkw
                          replace fvw := khv11 _ _ (fun q => by have z9 := fvw; rw [q] at z9; have := z9.symm.trans hY; first | cases this | simp at this) fvw
                          replace faj := khv11 _ _ (fun q => by have z9 := faj; rw [q] at z9; have := z9.symm.trans hY; first | cases this | simp at this) faj
                          replace fkj := khv11 _ _ (fun q => by have z9 := fkj; rw [q] at z9; have := z9.symm.trans hY; first | cases this | simp at this) fkj
                          replace fvj := khv11 _ _ (fun q => by have z9 := fvj; rw [q] at z9; have := z9.symm.trans hY; first | cases this | simp at this) fvj
                          replace hY : hv11 y = some (.inr (8, [.ref ms, .ref mb, .ref (ra 28), .int gr, .int (nI 3), .int ca, .int mv, .ref od, .ref pt, .int ct, .int fau, .ref fi, .ref re, .int cs, .ref rc, .ref rs, .ref so, .ref ot, .ref cn, .ref la, .int ce, .ref ro, .int rn])) := by rw [ehv11]; exact qs_self
                          clear ehv11
                          replace fr := fun b o hb n1 n2 => khv11 b o n1 (fr b o hb n1 n2)
                          refine lv_if_ne (tgt := 122) hx hb dX8_add_117 (by decide) (fun c117 => ?_) (fun c117 => ?_)
                          · replace c117 : ¬ 0 = 0 := fun zq => c117 ((nI_eq (a := 0) (b := 0) (by omega) (by omega)).mpr zq)
                            exfalso; omega
                          · replace c117 : 0 = 0 := (nI_eq (a := 0) (b := 0) (by omega) (by omega)).mp c117
                            refine lv_iconst (v := nI 0) hx hb dX8_add_120 (by decide) ?_
                            have ed : (xPut (S j).1 (decide (¬ (S j).1 = 2)) (S j).2.1 p2 0) = (xPut ((S j).1) false ((S j).2.1) p2 (xV ((S j).1) 0)) := by rw [show decide (¬ (S j).1 = 2) = false from by simp [ck]]; first | rfl | (rw [show xV (S j).1 0 = 0 from by unfold xV; split <;> rfl])
                            have el : (xPut ((S j).1) false ((S j).2.1) p2 (xV ((S j).1) 0)).length = (nj + 1) := by rw [← lw, qLs_len]
                            have ex : xs_add gr S (nI i) (nI j) p2 = (3, S, 0) := by (unfold xs_add; rw [if_neg (by simp [ebi, ebj]), ecj, if_neg (by simp [hoj]), ed, if_pos (by first | exact Or.inl (by omega) | exact Or.inr cr)])
                            obtain ⟨m9, f9⟩ := hM.fin0 hY0 (h' := hv11) ⟨hRw.1, hRw.2.1, hRw.2.2.1, faw, fkw, fvw⟩ fr
                            exact q_iret C hP hS ⟨by first | (rw [ex]; done) | (rw [ex]; rfl), by rw [ex]; exact hY, by first | exact m9 | (rw [ex]; exact m9), f9⟩ (by omega) dX8_add_121
                        · replace c105 : 1 = 0 := (nI_eq (a := 1) (b := 0) (by omega) (by omega)).mp c105
                          exfalso; omega
                      · rw [if_neg cr]
                        refine lv_if_ne (tgt := 112) hx hb dX8_add_105 (by decide) (fun c105 => ?_) (fun c105 => ?_)
                        · replace c105 : ¬ 0 = 0 := fun zq => c105 ((nI_eq (a := 0) (b := 0) (by omega) (by omega)).mpr zq)
                          exfalso; omega
                        · replace c105 : 0 = 0 := (nI_eq (a := 0) (b := 0) (by omega) (by omega)).mp c105
                          refine lv_iconst (v := nI 1) hx hb dX8_add_108 (by decide) ?_
                          refine lv_goto (tgt := 113) hx hb dX8_add_109 (by decide) ?_
                          refine lv_iconst (v := nI 3) hx hb dX8_add_113 (by decide) ?_
                          refine q_callV (rest := []) C (c_X8_good1 l D cy N0 hv9 y ms mb (ra 28) od pt fi re rc rs so ot cn la ro gr 0 ca mv ct fau cs ce rn (nI 3) hY) kX8_good g1249 g1251 rfl gp41 g4 hP hS hY (by first | decide | omega) hl.1 rfl (by decide) (by first | decide | omega) dX8_add_114 (fun q ce E h' H1 locs1 hE => hE.elim) (fun v hh17 H locs hq hP hS => ?_)
                          obtain ⟨rfl, rfl⟩ := hq
                          replace hP : qP D N0 (qs hv9 y (.inr (8, [.ref ms, .ref mb, .ref (ra 28), .int gr, .int 0, .int ca, .int mv, .ref od, .ref pt, .int ct, .int fau, .ref fi, .ref re, .int cs, .ref rc, .ref rs, .ref so, .ref ot, .ref cn, .ref la, .int ce, .ref ro, .int rn]))) H := hP
                          obtain ⟨hv12, ehv12⟩ : ∃ z : qH, z = qs hv9 y (.inr (8, [.ref ms, .ref mb, .ref (ra 28), .int gr, .int 0, .int ca, .int mv, .ref od, .ref pt, .int ct, .int fau, .ref fi, .ref re, .int cs, .ref rc, .ref rs, .ref so, .ref ot, .ref cn, .ref la, .int ce, .ref ro, .int rn])) := ⟨_, rfl⟩
                          rw [← ehv12] at hP
                          have khv12 : ∀ b o, b ≠ y → hv9 b = some o → hv12 b = some o := by rw [ehv12]; exact fun b o nb hb => (qs_ne nb).trans hb
                          replace hms := khv12 _ _ (fun q => by subst q; have := hms.symm.trans hY; first | cases this | simp at this) hms
                          replace hmb := khv12 _ _ (fun q => by subst q; have := hmb.symm.trans hY; first | cases this | simp at this) hmb
                          replace faw := khv12 _ _ (fun q => by have z9 := faw; rw [q] at z9; have := z9.symm.trans hY; first | cases this | simp at this) faw
                          replace fkw := khv12 _ _ (fun q => by have z9 := fkw; rw [q] at z9; have := z9.symm.trans hY; first | cases this | simp at this) fkw
                          replace fvw := khv12 _ _ (fun q => by have z9 := fvw; rw [q] at z9; have := z9.symm.trans hY; first | cases this | simp at this) fvw
                          replace faj := khv12 _ _ (fun q => by have z9 := faj; rw [q] at z9; have := z9.symm.trans hY; first | cases this | simp at this) faj
                          replace fkj := khv12 _ _ (fun q => by have z9 := fkj; rw [q] at z9; have := z9.symm.trans hY; first | cases this | simp at this) fkj
                          replace fvj := khv12 _ _ (fun q => by have z9 := fvj; rw [q] at z9; have := z9.symm.trans hY; first | cases this | simp at this) fvj
                          replace hY : hv12 y = some (.inr (8, [.ref ms, .ref mb, .ref (ra 28), .int gr, .int 0, .int ca, .int mv, .ref od, .ref pt, .int ct, .int fau, .ref fi, .ref re, .int cs, .ref rc, .ref rs, .ref so, .ref ot, .ref cn, .ref la, .int ce, .ref ro, .int rn])) := by rw [ehv12]; exact qs_self
                          clear ehv12
                          replace fr := fun b o hb n1 n2 => khv12 b o n1 (fr b o hb n1 n2)
                          refine lv_if_ne (tgt := 122) hx hb dX8_add_117 (by decide) (fun c117 => ?_) (fun c117 => ?_)
                          · replace c117 : ¬ 1 = 0 := fun zq => c117 ((nI_eq (a := 1) (b := 0) (by omega) (by omega)).mpr zq)
                            refine lv_aload_n hx hb dX8_add_122 rfl (lv_at hl 0 rfl) ?_
                            refine lv_iload_n hx hb dX8_add_123 rfl (lv_at hl 1 rfl) ?_
                            refine lv_iconst (v := nI 0) hx hb dX8_add_124 (by decide) ?_
                            obtain ⟨ni, rwi, Fi, Gi, hRi, hni, hLi, hKi⟩ := hrs i (by omega)
                            have api := hRi.apart hRw (hmd.two (i := i) (j := 28) (by omega) (by omega) (by omega))
                            replace hRi := hRi.keep2 (fun b o hb ho => fr b o ho (hRi.ney hY0 hb) (hb.elim (fun q => q ▸ api.1) (fun hb => hb.elim (fun q => q ▸ api.2.1) (fun q => q ▸ api.2.2))))
                            have fai := hRi.2.2.2.1
                            have fki := hRi.2.2.2.2.1
                            have fvi := hRi.2.2.2.2.2
                            unfold qRb at fai
                            unfold qJr at fki fvi
                            refine q_callV (rest := []) C (c_X8_done l D cy N0 hv12 y ms mb od pt fi re rc rs so ot cn la ro gr 0 ca mv ct fau cs ce rn ra rk rv i (nI 0) (S j).1 (nI (S j).2.2.1) (nI (S j).2.2.2) rwj (nj + 1) (vp_updL (qSh (qCp Fj fw nj) p9 nj) p9 p2) (vp_updL (qSh (qCp Gj gw nj) p9 nj) p9 0) (S i).1 (nI (S i).2.2.1) (nI (S i).2.2.2) rwi ni Fi Gi hY hms hmd ⟨hRw.1, hRw.2.1, hRw.2.2.1, faw, fkw, fvw⟩ ⟨hRi.1, hRi.2.1, hRi.2.2.1, fai, fki, fvi⟩ (by omega) (by omega)) kX8_done g1293 g1295 rfl gp45 g4 hP hS hY (by first | decide | omega) hl.1 rfl (by decide) (by first | decide | omega) dX8_add_125 (fun q ce E h' H1 locs1 hE => hE.elim) (fun v hh18 H locs hq hP hS => ?_)
                            obtain ⟨rfl, hY9, hw9, hi9, fr9⟩ := hq
                            replace fr := fun b o hb n1 n2 n3 => fr9 b o (fr b o hb n1 n2) n1 n2 n3
                            rw [show mv + nI 0 = mv from Int32.add_zero _] at hY9
                            have ed : (xPut (S j).1 (decide (¬ (S j).1 = 2)) (S j).2.1 p2 0) = (xPut ((S j).1) false ((S j).2.1) p2 (xV ((S j).1) 0)) := by rw [show decide (¬ (S j).1 = 2) = false from by simp [ck]]; first | rfl | (rw [show xV (S j).1 0 = 0 from by unfold xV; split <;> rfl])
                            have el : (xPut ((S j).1) false ((S j).2.1) p2 (xV ((S j).1) 0)).length = (nj + 1) := by rw [← lw, qLs_len]
                            have ex : xs_add gr S (nI i) (nI j) p2 = (0, qU S i ((S j).1, (xPut ((S j).1) false ((S j).2.1) p2 (xV ((S j).1) 0)), (S j).2.2), nI (nj + 1)) := by (unfold xs_add; rw [if_neg (by simp [ebi, ebj]), ecj, if_neg (by simp [hoj]), ed, if_neg (fun z => by rcases z with z | z <;> first | omega | exact cr z), eci, el])
                            obtain ⟨m9, f9⟩ := hM.fin hY0 (i := i) (by omega) (s := ((S j).1, (xPut ((S j).1) false ((S j).2.1) p2 (xV ((S j).1) 0)), (S j).2.2.1, (S j).2.2.2)) ⟨(nj + 1), _, _, _, hi9, by omega, by rw [qLs_cp]; exact lw.symm, Or.inl rfl⟩ hw9 fr
                            exact q_iret C hP hS ⟨by first | (rw [ex]; done) | (rw [ex]; rfl), by rw [ex]; exact hY9, by first | exact m9 | (rw [ex]; exact m9), f9⟩ (by omega) dX8_add_128
                          · replace c117 : 1 = 0 := (nI_eq (a := 1) (b := 0) (by omega) (by omega)).mp c117
                            exfalso; omega
                · refine lv_iconst (v := nI 1) hx hb dX8_add_74 (by decide) ?_
                  refine lv_goto (tgt := 79) hx hb dX8_add_75 (by decide) ?_
                  refine q_callS (rest := []) C (c_X8_put l D cy N0 hv4 (ra 28) (rk 28) (rv 28) ((S j).1) (nI (S j).2.2.1) (nI (S j).2.2.2) rwj nj (qCp Fj fw nj) (qCp Gj gw nj) p2 0 1 ⟨hRw.1, hRw.2.1, hRw.2.2.1, faw, fkw, fvw⟩ (by omega) (by decide)) kX8_put g1276 g1277 hP hS (by first | decide | omega) hl.1 rfl (by decide) (by first | decide | omega) dX8_add_79 (fun q ce E h' H1 locs1 hE => hE.elim) (fun v hh19 H locs hq hP hS => ?_)
                  obtain ⟨rfl, hq⟩ := hq
                  rcases hq with ⟨hz9, j9, hj9, e9, m9, rfl⟩ | ⟨hno9, p9, hp9, hs9, ht9, rfl⟩
                  · exact absurd hz9 (by decide)
                  · obtain ⟨hv13, ehv13⟩ : ∃ z : qH, z = qRh cy hv4 (ra 28) (rk 28) (rv 28) ((S j).1) (nI (nj + 1)) (nI (S j).2.2.1) (nI (S j).2.2.2) rwj (vp_updL (qSh (qCp Fj fw nj) p9 nj) p9 p2) (vp_updL (qSh (qCp Gj gw nj) p9 nj) p9 0) := ⟨_, rfl⟩
                    rw [← ehv13] at hP
                    have r9 : qRw cy hv13 (ra 28) (rk 28) (rv 28) ((S j).1) (nI (nj + 1)) (nI (S j).2.2.1) (nI (S j).2.2.2) rwj (vp_updL (qSh (qCp Fj fw nj) p9 nj) p9 p2) (vp_updL (qSh (qCp Gj gw nj) p9 nj) p9 0) := by rw [ehv13]; exact qRw.new (cy := cy) (h := hv4) (kd := (S j).1) (n := (nI nj)) (sm := (nI (S j).2.2.1)) (dp := (nI (S j).2.2.2)) (rw := rwj) (f := (qCp Fj fw nj)) (g := (qCp Gj gw nj)) ⟨hRw.1, hRw.2.1, hRw.2.2.1, faw, fkw, fvw⟩
                    have khv13 : ∀ b o, qOf (ra 28) (rk 28) (rv 28) b → hv4 b = some o → hv13 b = some o := by rw [ehv13]; exact fun b o q hb => (qRh_o q.1 q.2.1 q.2.2).trans hb
                    replace hY := khv13 _ _ ⟨fun q => by rw [q] at hY; have := faw.symm.trans hY; first | cases this | simp at this, fun q => by rw [q] at hY; have := fkw.symm.trans hY; first | cases this | simp at this, fun q => by rw [q] at hY; have := fvw.symm.trans hY; first | cases this | simp at this⟩ hY
                    replace hms := khv13 _ _ ⟨fun q => by rw [q] at hms; have := faw.symm.trans hms; first | cases this | simp at this, fun q => by rw [q] at hms; have := fkw.symm.trans hms; first | cases this | simp at this, fun q => by rw [q] at hms; have := fvw.symm.trans hms; first | cases this | simp at this⟩ hms
                    replace hmb := khv13 _ _ ⟨fun q => by rw [q] at hmb; have := faw.symm.trans hmb; first | cases this | simp at this, fun q => by rw [q] at hmb; have := fkw.symm.trans hmb; first | cases this | simp at this, fun q => by rw [q] at hmb; have := fvw.symm.trans hmb; first | cases this | simp at this⟩ hmb
                    replace faj := khv13 _ _ apj.1 faj
                    replace fkj := khv13 _ _ apj.2.1 fkj
                    replace fvj := khv13 _ _ apj.2.2 fvj
                    replace fr := fun b o hb n1 n2 => khv13 b o n2 (fr b o hb n1 n2)
                    clear faw fkw fvw
                    have faw := r9.2.2.2.1
                    have fkw := r9.2.2.2.2.1
                    have fvw := r9.2.2.2.2.2
                    unfold qRb at faw
                    unfold qJr at fkw fvw
                    clear r9 ehv13
                    replace lw : qLs ((S j).1) (vp_updL (qSh (qCp Fj fw nj) p9 nj) p9 p2) (vp_updL (qSh (qCp Gj gw nj) p9 nj) p9 0) (nj + 1) = xPut ((S j).1) true ((S j).2.1) p2 (xV ((S j).1) 0) := by
                      rw [xPut, if_neg (fun q => by cases q.1), qLs_ins hp9]
                      by_cases z9 : ((S j).1) = 3 ∨ ((S j).1) = 5
                      · rw [if_pos z9, ← lw]; exact xSi_row (lw ▸ (hI j (by omega)).1 z9) hp9 (hs9 z9).1 (hs9 z9).2
                      · rw [if_neg z9, ht9 z9, lw, List.take_of_length_le (by rw [← lw, qLs_len]; omega), List.drop_of_length_le (by rw [← lw, qLs_len]; omega)]
                    refine lv_aload_n hx hb dX8_add_82 rfl (lv_at hl 0 rfl) ?_
                    refine lv_aload_n hx hb dX8_add_83 rfl (lv_at hl 0 rfl) ?_
                    refine q_get C hP hY rfl inX8 2 (by decide) g1169 rfl dX8_add_84 ?_
                    refine q_get C hP faw rfl inX7 3 (by decide) g1143 rfl dX8_add_87 ?_
                    refine lv_sipush (v := nI 1000) hx hb dX8_add_90 (by decide) ?_
                    refine lv_icmp_gt (tgt := 112) hx hb dX8_add_93 (by decide) (fun c93 => ?_) (fun c93 => ?_)
                    · replace c93 : 1000 < (nj + 1) := (nI_ltI (a := 1000) (b := (nj + 1)) (by omega) (by omega)).mp c93
                      refine lv_iconst (v := nI 0) hx hb dX8_add_112 (by decide) ?_
                      refine lv_iconst (v := nI 3) hx hb dX8_add_113 (by decide) ?_
                      refine q_callV (rest := []) C (c_X8_good0 l D cy N0 hv13 y ms mb (ra 28) od pt fi re rc rs so ot cn la ro gr 0 ca mv ct fau cs ce rn (nI 3) hY) kX8_good g1249 g1251 rfl gp41 g4 hP hS hY (by first | decide | omega) hl.1 rfl (by decide) (by first | decide | omega) dX8_add_114 (fun q ce E h' H1 locs1 hE => hE.elim) (fun v hh20 H locs hq hP hS => ?_)
                      obtain ⟨rfl, rfl⟩ := hq
                      replace hP : qP D N0 (qs hv13 y (.inr (8, [.ref ms, .ref mb, .ref (ra 28), .int gr, .int (nI 3), .int ca, .int mv, .ref od, .ref pt, .int ct, .int fau, .ref fi, .ref re, .int cs, .ref rc, .ref rs, .ref so, .ref ot, .ref cn, .ref la, .int ce, .ref ro, .int rn]))) H := hP
                      obtain ⟨hv14, ehv14⟩ : ∃ z : qH, z = qs hv13 y (.inr (8, [.ref ms, .ref mb, .ref (ra 28), .int gr, .int (nI 3), .int ca, .int mv, .ref od, .ref pt, .int ct, .int fau, .ref fi, .ref re, .int cs, .ref rc, .ref rs, .ref so, .ref ot, .ref cn, .ref la, .int ce, .ref ro, .int rn])) := ⟨_, rfl⟩
                      rw [← ehv14] at hP
                      have khv14 : ∀ b o, b ≠ y → hv13 b = some o → hv14 b = some o := by rw [ehv14]; exact fun b o nb hb => (qs_ne nb).trans hb
                      replace hms := khv14 _ _ (fun q => by subst q; have := hms.symm.trans hY; first | cases this | simp at this) hms
                      replace hmb := khv14 _ _ (fun q => by subst q; have := hmb.symm.trans hY; first | cases this | simp at this) hmb
                      replace faw := khv14 _ _ (fun q => by have z9 := faw; rw [q] at z9; have := z9.symm.trans hY; first | cases this | simp at this) faw
                      replace fkw := khv14 _ _ (fun q => by have z9 := fkw; rw [q] at z9; have := z9.symm.trans hY; first | cases this | simp at this) fkw
                      replace fvw := khv14 _ _ (fun q => by have z9 := fvw; rw [q] at z9; have := z9.symm.trans hY; first | cases this | simp at this) fvw
                      replace faj := khv14 _ _ (fun q => by have z9 := faj; rw [q] at z9; have := z9.symm.trans hY; first | cases this | simp at this) faj
                      replace fkj := khv14 _ _ (fun q => by have z9 := fkj; rw [q] at z9; have := z9.symm.trans hY; first | cases this | simp at this) fkj
                      replace fvj := khv14 _ _ (fun q => by have z9 := fvj; rw [q] at z9; have := z9.symm.trans hY; first | cases this | simp at this) fvj
                      replace hY : hv14 y = some (.inr (8, [.ref ms, .ref mb, .ref (ra 28), .int gr, .int (nI 3), .int ca, .int mv, .ref od, .ref pt, .int ct, .int fau, .ref fi, .ref re, .int cs, .ref rc, .ref rs, .ref so, .ref ot, .ref cn, .ref la, .int ce, .ref ro, .int rn])) := by rw [ehv14]; exact qs_self
                      clear ehv14
                      replace fr := fun b o hb n1 n2 => khv14 b o n1 (fr b o hb n1 n2)
                      refine lv_if_ne (tgt := 122) hx hb dX8_add_117 (by decide) (fun c117 => ?_) (fun c117 => ?_)
                      · replace c117 : ¬ 0 = 0 := fun zq => c117 ((nI_eq (a := 0) (b := 0) (by omega) (by omega)).mpr zq)
                        exfalso; omega
                      · replace c117 : 0 = 0 := (nI_eq (a := 0) (b := 0) (by omega) (by omega)).mp c117
                        refine lv_iconst (v := nI 0) hx hb dX8_add_120 (by decide) ?_
                        have ed : (xPut (S j).1 (decide (¬ (S j).1 = 2)) (S j).2.1 p2 0) = (xPut ((S j).1) true ((S j).2.1) p2 (xV ((S j).1) 0)) := by rw [show decide (¬ (S j).1 = 2) = true from by simp [ck]]; first | rfl | (rw [show xV (S j).1 0 = 0 from by unfold xV; split <;> rfl])
                        have el : (xPut ((S j).1) true ((S j).2.1) p2 (xV ((S j).1) 0)).length = (nj + 1) := by rw [← lw, qLs_len]
                        have ex : xs_add gr S (nI i) (nI j) p2 = (3, S, 0) := by (unfold xs_add; rw [if_neg (by simp [ebi, ebj]), ecj, if_neg (by simp [hoj]), ed, if_pos (by first | exact Or.inl (by omega) | exact Or.inr cr)])
                        obtain ⟨m9, f9⟩ := hM.fin0 hY0 (h' := hv14) ⟨hRw.1, hRw.2.1, hRw.2.2.1, faw, fkw, fvw⟩ fr
                        exact q_iret C hP hS ⟨by first | (rw [ex]; done) | (rw [ex]; rfl), by rw [ex]; exact hY, by first | exact m9 | (rw [ex]; exact m9), f9⟩ (by omega) dX8_add_121
                    · replace c93 : ¬ 1000 < (nj + 1) := fun zq => c93 ((nI_ltI (a := 1000) (b := (nj + 1)) (by omega) (by omega)).mpr zq)
                      refine lv_aload_n hx hb dX8_add_96 rfl (lv_at hl 0 rfl) ?_
                      refine lv_aload_n hx hb dX8_add_97 rfl (lv_at hl 0 rfl) ?_
                      refine q_get C hP hY rfl inX8 2 (by decide) g1169 rfl dX8_add_98 ?_
                      refine lv_lload_n hx hb dX8_add_101 rfl (lv_at hl 3 rfl) ?_
                      refine q_callV (rest := [.ref y]) C (c_X8_crowded l D cy N0 hv13 y ms mb (ra 28) od pt fi re rc rs so ot cn la ro gr 0 ca mv ct fau cs ce rn (ra 28) (rk 28) (rv 28) ((S j).1) (nI (S j).2.2.1) (nI (S j).2.2.2) rwj (nj + 1) (vp_updL (qSh (qCp Fj fw nj) p9 nj) p9 p2) (vp_updL (qSh (qCp Gj gw nj) p9 nj) p9 0) p2 hY ⟨hRw.1, hRw.2.1, hRw.2.2.1, faw, fkw, fvw⟩ (by omega)) kX8_crowded g1285 g1287 rfl gp43 g4 hP hS hY (by first | decide | omega) hl.1 rfl (by simp [q_catrf, q_cati, q_catl, q_cata, q_catn]) (by first | decide | omega) dX8_add_102 (fun q ce E h' H1 locs1 hE => hE.elim) (fun v hh21 H locs hq hP hS => ?_)
                      obtain ⟨rfl, rfl⟩ := hq
                      rw [xAl_row (kd := (S j).1) (g := (vp_updL (qSh (qCp Gj gw nj) p9 nj) p9 0)), lw]
                      by_cases cr : 16 < xAl gr (xPut ((S j).1) true ((S j).2.1) p2 (xV ((S j).1) 0)) p2 ∧ (((S j).1) = 1 ∨ ((S j).1) = 2)
                      · rw [if_pos cr]
                        refine lv_if_ne (tgt := 112) hx hb dX8_add_105 (by decide) (fun c105 => ?_) (fun c105 => ?_)
                        · replace c105 : ¬ 1 = 0 := fun zq => c105 ((nI_eq (a := 1) (b := 0) (by omega) (by omega)).mpr zq)
                          refine lv_iconst (v := nI 0) hx hb dX8_add_112 (by decide) ?_
                          refine lv_iconst (v := nI 3) hx hb dX8_add_113 (by decide) ?_
                          refine q_callV (rest := []) C (c_X8_good0 l D cy N0 hv13 y ms mb (ra 28) od pt fi re rc rs so ot cn la ro gr 0 ca mv ct fau cs ce rn (nI 3) hY) kX8_good g1249 g1251 rfl gp41 g4 hP hS hY (by first | decide | omega) hl.1 rfl (by decide) (by first | decide | omega) dX8_add_114 (fun q ce E h' H1 locs1 hE => hE.elim) (fun v hh22 H locs hq hP hS => ?_)
                          obtain ⟨rfl, rfl⟩ := hq
                          replace hP : qP D N0 (qs hv13 y (.inr (8, [.ref ms, .ref mb, .ref (ra 28), .int gr, .int (nI 3), .int ca, .int mv, .ref od, .ref pt, .int ct, .int fau, .ref fi, .ref re, .int cs, .ref rc, .ref rs, .ref so, .ref ot, .ref cn, .ref la, .int ce, .ref ro, .int rn]))) H := hP
                          obtain ⟨hv15, ehv15⟩ : ∃ z : qH, z = qs hv13 y (.inr (8, [.ref ms, .ref mb, .ref (ra 28), .int gr, .int (nI 3), .int ca, .int mv, .ref od, .ref pt, .int ct, .int fau, .ref fi, .ref re, .int cs, .ref rc, .ref rs, .ref so, .ref ot, .ref cn, .ref la, .int ce, .ref ro, .int rn])) := ⟨_, rfl⟩
                          rw [← ehv15] at hP
                          have khv15 : ∀ b o, b ≠ y → hv13 b = some o → hv15 b = some o := by rw [ehv15]; exact fun b o nb hb => (qs_ne nb).trans hb
                          replace hms := khv15 _ _ (fun q => by subst q; have := hms.symm.trans hY; first | cases this | simp at this) hms
                          replace hmb := khv15 _ _ (fun q => by subst q; have := hmb.symm.trans hY; first | cases this | simp at this) hmb
                          replace faw := khv15 _ _ (fun q => by have z9 := faw; rw [q] at z9; have := z9.symm.trans hY; first | cases this | simp at this) faw
                          replace fkw := khv15 _ _ (fun q => by have z9 := fkw; rw [q] at z9; have := z9.symm.trans hY; first | cases this | simp at this) fkw
                          replace fvw := khv15 _ _ (fun q => by have z9 := fvw; rw [q] at z9; have := z9.symm.trans hY; first | cases this | simp at this) fvw
                          replace faj := khv15 _ _ (fun q => by have z9 := faj; rw [q] at z9; have := z9.symm.trans hY; first | cases this | simp at this) faj
                          replace fkj := khv15 _ _ (fun q => by have z9 := fkj; rw [q] at z9; have := z9.symm.trans hY; first | cases this | simp at this) fkj
                          replace fvj := khv15 _ _ (fun q => by have z9 := fvj; rw [q] at z9; have := z9.symm.trans hY; first | cases this | simp at this) fvj
                          replace hY : hv15 y = some (.inr (8, [.ref ms, .ref mb, .ref (ra 28), .int gr, .int (nI 3), .int ca, .int mv, .ref od, .ref pt, .int ct, .int fau, .ref fi, .ref re, .int cs, .ref rc, .ref rs, .ref so, .ref ot, .ref cn, .ref la, .int ce, .ref ro, .int rn])) := by rw [ehv15]; exact qs_self
                          clear ehv15
                          replace fr := fun b o hb n1 n2 => khv15 b o n1 (fr b o hb n1 n2)
                          refine lv_if_ne (tgt := 122) hx hb dX8_add_117 (by decide) (fun c117 => ?_) (fun c117 => ?_)
                          · replace c117 : ¬ 0 = 0 := fun zq => c117 ((nI_eq (a := 0) (b := 0) (by omega) (by omega)).mpr zq)
                            exfalso; omega
                          · replace c117 : 0 = 0 := (nI_eq (a := 0) (b := 0) (by omega) (by omega)).mp c117
                            refine lv_iconst (v := nI 0) hx hb dX8_add_120 (by decide) ?_
                            have ed : (xPut (S j).1 (decide (¬ (S j).1 = 2)) (S j).2.1 p2 0) = (xPut ((S j).1) true ((S j).2.1) p2 (xV ((S j).1) 0)) := by rw [show decide (¬ (S j).1 = 2) = true from by simp [ck]]; first | rfl | (rw [show xV (S j).1 0 = 0 from by unfold xV; split <;> rfl])
                            have el : (xPut ((S j).1) true ((S j).2.1) p2 (xV ((S j).1) 0)).length = (nj + 1) := by rw [← lw, qLs_len]
                            have ex : xs_add gr S (nI i) (nI j) p2 = (3, S, 0) := by (unfold xs_add; rw [if_neg (by simp [ebi, ebj]), ecj, if_neg (by simp [hoj]), ed, if_pos (by first | exact Or.inl (by omega) | exact Or.inr cr)])
                            obtain ⟨m9, f9⟩ := hM.fin0 hY0 (h' := hv15) ⟨hRw.1, hRw.2.1, hRw.2.2.1, faw, fkw, fvw⟩ fr
                            exact q_iret C hP hS ⟨by first | (rw [ex]; done) | (rw [ex]; rfl), by rw [ex]; exact hY, by first | exact m9 | (rw [ex]; exact m9), f9⟩ (by omega) dX8_add_121
                        · replace c105 : 1 = 0 := (nI_eq (a := 1) (b := 0) (by omega) (by omega)).mp c105
                          exfalso; omega
                      · rw [if_neg cr]
                        refine lv_if_ne (tgt := 112) hx hb dX8_add_105 (by decide) (fun c105 => ?_) (fun c105 => ?_)
                        · replace c105 : ¬ 0 = 0 := fun zq => c105 ((nI_eq (a := 0) (b := 0) (by omega) (by omega)).mpr zq)
                          exfalso; omega
                        · replace c105 : 0 = 0 := (nI_eq (a := 0) (b := 0) (by omega) (by omega)).mp c105
                          refine lv_iconst (v := nI 1) hx hb dX8_add_108 (by decide) ?_
                          refine lv_goto (tgt := 113) hx hb dX8_add_109 (by decide) ?_
                          refine lv_iconst (v := nI 3) hx hb dX8_add_113 (by decide) ?_
                          refine q_callV (rest := []) C (c_X8_good1 l D cy N0 hv13 y ms mb (ra 28) od pt fi re rc rs so ot cn la ro gr 0 ca mv ct fau cs ce rn (nI 3) hY) kX8_good g1249 g1251 rfl gp41 g4 hP hS hY (by first | decide | omega) hl.1 rfl (by decide) (by first | decide | omega) dX8_add_114 (fun q ce E h' H1 locs1 hE => hE.elim) (fun v hh23 H locs hq hP hS => ?_)
                          obtain ⟨rfl, rfl⟩ := hq
                          replace hP : qP D N0 (qs hv13 y (.inr (8, [.ref ms, .ref mb, .ref (ra 28), .int gr, .int 0, .int ca, .int mv, .ref od, .ref pt, .int ct, .int fau, .ref fi, .ref re, .int cs, .ref rc, .ref rs, .ref so, .ref ot, .ref cn, .ref la, .int ce, .ref ro, .int rn]))) H := hP
                          obtain ⟨hv16, ehv16⟩ : ∃ z : qH, z = qs hv13 y (.inr (8, [.ref ms, .ref mb, .ref (ra 28), .int gr, .int 0, .int ca, .int mv, .ref od, .ref pt, .int ct, .int fau, .ref fi, .ref re, .int cs, .ref rc, .ref rs, .ref so, .ref ot, .ref cn, .ref la, .int ce, .ref ro, .int rn])) := ⟨_, rfl⟩
                          rw [← ehv16] at hP
                          have khv16 : ∀ b o, b ≠ y → hv13 b = some o → hv16 b = some o := by rw [ehv16]; exact fun b o nb hb => (qs_ne nb).trans hb
                          replace hms := khv16 _ _ (fun q => by subst q; have := hms.symm.trans hY; first | cases this | simp at this) hms
                          replace hmb := khv16 _ _ (fun q => by subst q; have := hmb.symm.trans hY; first | cases this | simp at this) hmb
                          replace faw := khv16 _ _ (fun q => by have z9 := faw; rw [q] at z9; have := z9.symm.trans hY; first | cases this | simp at this) faw
                          replace fkw := khv16 _ _ (fun q => by have z9 := fkw; rw [q] at z9; have := z9.symm.trans hY; first | cases this | simp at this) fkw
                          replace fvw := khv16 _ _ (fun q => by have z9 := fvw; rw [q] at z9; have := z9.symm.trans hY; first | cases this | simp at this) fvw
                          replace faj := khv16 _ _ (fun q => by have z9 := faj; rw [q] at z9; have := z9.symm.trans hY; first | cases this | simp at this) faj
                          replace fkj := khv16 _ _ (fun q => by have z9 := fkj; rw [q] at z9; have := z9.symm.trans hY; first | cases this | simp at this) fkj
                          replace fvj := khv16 _ _ (fun q => by have z9 := fvj; rw [q] at z9; have := z9.symm.trans hY; first | cases this | simp at this) fvj
                          replace hY : hv16 y = some (.inr (8, [.ref ms, .ref mb, .ref (ra 28), .int gr, .int 0, .int ca, .int mv, .ref od, .ref pt, .int ct, .int fau, .ref fi, .ref re, .int cs, .ref rc, .ref rs, .ref so, .ref ot, .ref cn, .ref la, .int ce, .ref ro, .int rn])) := by rw [ehv16]; exact qs_self
                          clear ehv16
                          replace fr := fun b o hb n1 n2 => khv16 b o n1 (fr b o hb n1 n2)
                          refine lv_if_ne (tgt := 122) hx hb dX8_add_117 (by decide) (fun c117 => ?_) (fun c117 => ?_)
                          · replace c117 : ¬ 1 = 0 := fun zq => c117 ((nI_eq (a := 1) (b := 0) (by omega) (by omega)).mpr zq)
                            refine lv_aload_n hx hb dX8_add_122 rfl (lv_at hl 0 rfl) ?_
                            refine lv_iload_n hx hb dX8_add_123 rfl (lv_at hl 1 rfl) ?_
                            refine lv_iconst (v := nI 0) hx hb dX8_add_124 (by decide) ?_
                            obtain ⟨ni, rwi, Fi, Gi, hRi, hni, hLi, hKi⟩ := hrs i (by omega)
                            have api := hRi.apart hRw (hmd.two (i := i) (j := 28) (by omega) (by omega) (by omega))
                            replace hRi := hRi.keep2 (fun b o hb ho => fr b o ho (hRi.ney hY0 hb) (hb.elim (fun q => q ▸ api.1) (fun hb => hb.elim (fun q => q ▸ api.2.1) (fun q => q ▸ api.2.2))))
                            have fai := hRi.2.2.2.1
                            have fki := hRi.2.2.2.2.1
                            have fvi := hRi.2.2.2.2.2
                            unfold qRb at fai
                            unfold qJr at fki fvi
                            refine q_callV (rest := []) C (c_X8_done l D cy N0 hv16 y ms mb od pt fi re rc rs so ot cn la ro gr 0 ca mv ct fau cs ce rn ra rk rv i (nI 0) (S j).1 (nI (S j).2.2.1) (nI (S j).2.2.2) rwj (nj + 1) (vp_updL (qSh (qCp Fj fw nj) p9 nj) p9 p2) (vp_updL (qSh (qCp Gj gw nj) p9 nj) p9 0) (S i).1 (nI (S i).2.2.1) (nI (S i).2.2.2) rwi ni Fi Gi hY hms hmd ⟨hRw.1, hRw.2.1, hRw.2.2.1, faw, fkw, fvw⟩ ⟨hRi.1, hRi.2.1, hRi.2.2.1, fai, fki, fvi⟩ (by omega) (by omega)) kX8_done g1293 g1295 rfl gp45 g4 hP hS hY (by first | decide | omega) hl.1 rfl (by decide) (by first | decide | omega) dX8_add_125 (fun q ce E h' H1 locs1 hE => hE.elim) (fun v hh24 H locs hq hP hS => ?_)
                            obtain ⟨rfl, hY9, hw9, hi9, fr9⟩ := hq
                            replace fr := fun b o hb n1 n2 n3 => fr9 b o (fr b o hb n1 n2) n1 n2 n3
                            rw [show mv + nI 0 = mv from Int32.add_zero _] at hY9
                            have ed : (xPut (S j).1 (decide (¬ (S j).1 = 2)) (S j).2.1 p2 0) = (xPut ((S j).1) true ((S j).2.1) p2 (xV ((S j).1) 0)) := by rw [show decide (¬ (S j).1 = 2) = true from by simp [ck]]; first | rfl | (rw [show xV (S j).1 0 = 0 from by unfold xV; split <;> rfl])
                            have el : (xPut ((S j).1) true ((S j).2.1) p2 (xV ((S j).1) 0)).length = (nj + 1) := by rw [← lw, qLs_len]
                            have ex : xs_add gr S (nI i) (nI j) p2 = (0, qU S i ((S j).1, (xPut ((S j).1) true ((S j).2.1) p2 (xV ((S j).1) 0)), (S j).2.2), nI (nj + 1)) := by (unfold xs_add; rw [if_neg (by simp [ebi, ebj]), ecj, if_neg (by simp [hoj]), ed, if_neg (fun z => by rcases z with z | z <;> first | omega | exact cr z), eci, el])
                            obtain ⟨m9, f9⟩ := hM.fin hY0 (i := i) (by omega) (s := ((S j).1, (xPut ((S j).1) true ((S j).2.1) p2 (xV ((S j).1) 0)), (S j).2.2.1, (S j).2.2.2)) ⟨(nj + 1), _, _, _, hi9, by omega, by rw [qLs_cp]; exact lw.symm, Or.inl rfl⟩ hw9 fr
                            exact q_iret C hP hS ⟨by first | (rw [ex]; done) | (rw [ex]; rfl), by rw [ex]; exact hY9, by first | exact m9 | (rw [ex]; exact m9), f9⟩ (by omega) dX8_add_128
                          · replace c117 : 1 = 0 := (nI_eq (a := 1) (b := 0) (by omega) (by omega)).mp c117
                            exfalso; omega
              · replace c39 : 1 = 0 := (nI_eq (a := 1) (b := 0) (by omega) (by omega)).mp c39
                exfalso; omega
      · have ebj : bSl p1 = false := bSl_f sl9
        refine lv_if_eq (tgt := 19) hx hb dX8_add_12 (by decide) (fun c12 => ?_) (fun c12 => ?_)
        · replace c12 : 0 = 0 := (nI_eq (a := 0) (b := 0) (by omega) (by omega)).mp c12
          refine lv_iconst (v := nI 0) hx hb dX8_add_19 (by decide) ?_
          refine lv_iconst (v := nI 1) hx hb dX8_add_20 (by decide) ?_
          refine q_callV (rest := []) C (c_X8_good0 l D cy N0 h y ms mb (ra 28) od pt fi re rc rs so ot cn la ro gr cd ca mv ct fau cs ce rn (nI 1) hY) kX8_good g1249 g1251 rfl gp41 g4 hP hS hY (by first | decide | omega) hl.1 rfl (by decide) (by first | decide | omega) dX8_add_21 (fun q ce E h' H1 locs1 hE => hE.elim) (fun v hh25 H locs hq hP hS => ?_)
          obtain ⟨rfl, rfl⟩ := hq
          replace hP : qP D N0 (qs h y (.inr (8, [.ref ms, .ref mb, .ref (ra 28), .int gr, .int (nI 1), .int ca, .int mv, .ref od, .ref pt, .int ct, .int fau, .ref fi, .ref re, .int cs, .ref rc, .ref rs, .ref so, .ref ot, .ref cn, .ref la, .int ce, .ref ro, .int rn]))) H := hP
          obtain ⟨hv17, ehv17⟩ : ∃ z : qH, z = qs h y (.inr (8, [.ref ms, .ref mb, .ref (ra 28), .int gr, .int (nI 1), .int ca, .int mv, .ref od, .ref pt, .int ct, .int fau, .ref fi, .ref re, .int cs, .ref rc, .ref rs, .ref so, .ref ot, .ref cn, .ref la, .int ce, .ref ro, .int rn])) := ⟨_, rfl⟩
          rw [← ehv17] at hP
          have khv17 : ∀ b o, b ≠ y → h b = some o → hv17 b = some o := by rw [ehv17]; exact fun b o nb hb => (qs_ne nb).trans hb
          replace hms := khv17 _ _ (fun q => by subst q; have := hms.symm.trans hY; first | cases this | simp at this) hms
          replace hmb := khv17 _ _ (fun q => by subst q; have := hmb.symm.trans hY; first | cases this | simp at this) hmb
          replace faw := khv17 _ _ (fun q => by have z9 := faw; rw [q] at z9; have := z9.symm.trans hY; first | cases this | simp at this) faw
          replace fkw := khv17 _ _ (fun q => by have z9 := fkw; rw [q] at z9; have := z9.symm.trans hY; first | cases this | simp at this) fkw
          replace fvw := khv17 _ _ (fun q => by have z9 := fvw; rw [q] at z9; have := z9.symm.trans hY; first | cases this | simp at this) fvw
          replace hY : hv17 y = some (.inr (8, [.ref ms, .ref mb, .ref (ra 28), .int gr, .int (nI 1), .int ca, .int mv, .ref od, .ref pt, .int ct, .int fau, .ref fi, .ref re, .int cs, .ref rc, .ref rs, .ref so, .ref ot, .ref cn, .ref la, .int ce, .ref ro, .int rn])) := by rw [ehv17]; exact qs_self
          clear ehv17
          replace fr := fun b o hb n1 n2 => khv17 b o n1 (fr b o hb n1 n2)
          refine lv_if_eq (tgt := 42) hx hb dX8_add_24 (by decide) (fun c24 => ?_) (fun c24 => ?_)
          · replace c24 : 0 = 0 := (nI_eq (a := 0) (b := 0) (by omega) (by omega)).mp c24
            refine lv_iconst (v := nI 0) hx hb dX8_add_42 (by decide) ?_
            have ex : xs_add gr S (nI i) p1 p2 = (1, S, 0) := by (unfold xs_add; rw [if_pos (by simp [ebi, ebj])])
            obtain ⟨m9, f9⟩ := hM.fin0 hY0 (h' := hv17) ⟨hRw.1, hRw.2.1, hRw.2.2.1, faw, fkw, fvw⟩ fr
            exact q_iret C hP hS ⟨by first | (rw [ex]; done) | (rw [ex]; rfl), by rw [ex]; exact hY, by first | exact m9 | (rw [ex]; exact m9), f9⟩ (by omega) dX8_add_43
          · replace c24 : ¬ 0 = 0 := fun zq => c24 ((nI_eq (a := 0) (b := 0) (by omega) (by omega)).mpr zq)
            exfalso; omega
        · replace c12 : ¬ 0 = 0 := fun zq => c12 ((nI_eq (a := 0) (b := 0) (by omega) (by omega)).mpr zq)
          exfalso; omega
  · have ebi : bSl p0 = false := bSl_f sl9
    refine lv_if_eq (tgt := 19) hx hb dX8_add_5 (by decide) (fun c5 => ?_) (fun c5 => ?_)
    · replace c5 : 0 = 0 := (nI_eq (a := 0) (b := 0) (by omega) (by omega)).mp c5
      refine lv_iconst (v := nI 0) hx hb dX8_add_19 (by decide) ?_
      refine lv_iconst (v := nI 1) hx hb dX8_add_20 (by decide) ?_
      refine q_callV (rest := []) C (c_X8_good0 l D cy N0 h y ms mb (ra 28) od pt fi re rc rs so ot cn la ro gr cd ca mv ct fau cs ce rn (nI 1) hY) kX8_good g1249 g1251 rfl gp41 g4 hP hS hY (by first | decide | omega) hl.1 rfl (by decide) (by first | decide | omega) dX8_add_21 (fun q ce E h' H1 locs1 hE => hE.elim) (fun v hh26 H locs hq hP hS => ?_)
      obtain ⟨rfl, rfl⟩ := hq
      replace hP : qP D N0 (qs h y (.inr (8, [.ref ms, .ref mb, .ref (ra 28), .int gr, .int (nI 1), .int ca, .int mv, .ref od, .ref pt, .int ct, .int fau, .ref fi, .ref re, .int cs, .ref rc, .ref rs, .ref so, .ref ot, .ref cn, .ref la, .int ce, .ref ro, .int rn]))) H := hP
      obtain ⟨hv18, ehv18⟩ : ∃ z : qH, z = qs h y (.inr (8, [.ref ms, .ref mb, .ref (ra 28), .int gr, .int (nI 1), .int ca, .int mv, .ref od, .ref pt, .int ct, .int fau, .ref fi, .ref re, .int cs, .ref rc, .ref rs, .ref so, .ref ot, .ref cn, .ref la, .int ce, .ref ro, .int rn])) := ⟨_, rfl⟩
      rw [← ehv18] at hP
      have khv18 : ∀ b o, b ≠ y → h b = some o → hv18 b = some o := by rw [ehv18]; exact fun b o nb hb => (qs_ne nb).trans hb
      replace hms := khv18 _ _ (fun q => by subst q; have := hms.symm.trans hY; first | cases this | simp at this) hms
      replace hmb := khv18 _ _ (fun q => by subst q; have := hmb.symm.trans hY; first | cases this | simp at this) hmb
      replace faw := khv18 _ _ (fun q => by have z9 := faw; rw [q] at z9; have := z9.symm.trans hY; first | cases this | simp at this) faw
      replace fkw := khv18 _ _ (fun q => by have z9 := fkw; rw [q] at z9; have := z9.symm.trans hY; first | cases this | simp at this) fkw
      replace fvw := khv18 _ _ (fun q => by have z9 := fvw; rw [q] at z9; have := z9.symm.trans hY; first | cases this | simp at this) fvw
      replace hY : hv18 y = some (.inr (8, [.ref ms, .ref mb, .ref (ra 28), .int gr, .int (nI 1), .int ca, .int mv, .ref od, .ref pt, .int ct, .int fau, .ref fi, .ref re, .int cs, .ref rc, .ref rs, .ref so, .ref ot, .ref cn, .ref la, .int ce, .ref ro, .int rn])) := by rw [ehv18]; exact qs_self
      clear ehv18
      replace fr := fun b o hb n1 n2 => khv18 b o n1 (fr b o hb n1 n2)
      refine lv_if_eq (tgt := 42) hx hb dX8_add_24 (by decide) (fun c24 => ?_) (fun c24 => ?_)
      · replace c24 : 0 = 0 := (nI_eq (a := 0) (b := 0) (by omega) (by omega)).mp c24
        refine lv_iconst (v := nI 0) hx hb dX8_add_42 (by decide) ?_
        have ex : xs_add gr S p0 p1 p2 = (1, S, 0) := by (unfold xs_add; rw [if_pos (by simp [ebi])])
        obtain ⟨m9, f9⟩ := hM.fin0 hY0 (h' := hv18) ⟨hRw.1, hRw.2.1, hRw.2.2.1, faw, fkw, fvw⟩ fr
        exact q_iret C hP hS ⟨by first | (rw [ex]; done) | (rw [ex]; rfl), by rw [ex]; exact hY, by first | exact m9 | (rw [ex]; exact m9), f9⟩ (by omega) dX8_add_43
      · replace c24 : ¬ 0 = 0 := fun zq => c24 ((nI_eq (a := 0) (b := 0) (by omega) (by omega)).mpr zq)
        exfalso; omega
    · replace c5 : ¬ 0 = 0 := fun zq => c5 ((nI_eq (a := 0) (b := 0) (by omega) (by omega)).mpr zq)
      exfalso; omega
