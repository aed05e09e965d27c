def xs_make (S : Nat → qSlot) (p0 p1 : Int32) : Int32 × (Nat → qSlot) := if bSl p0 = false ∨ bIn p1 6 = false then (1, S) else (0, qU S p0.toNatClampNeg (p1, [], 0, 0))
def xs_copy (S : Nat → qSlot) (p0 p1 : Int32) : Int32 × (Nat → qSlot) := if bSl p0 = false ∨ bSl p1 = false then (1, S) else if (S p1.toNatClampNeg).1 < 0 then (2, S) else (0, qU S p0.toNatClampNeg (S p1.toNatClampNeg))
def xs_look (S : Nat → qSlot) (p0 : Int32) (p1 : Int64) : Int32 × Int64 := if bB3 p0 = false then (1, 0) else if (S (24 + p0.toNatClampNeg)).1 < 0 then (2, 0) else
  if (S (24 + p0.toNatClampNeg)).1 = 0 then (if 0 ≤ p1.toInt ∧ p1.toInt < (S (24 + p0.toNatClampNeg)).2.1.length then (0, ((S (24 + p0.toNatClampNeg)).2.1.getD p1.toInt.toNat (0, 0)).1) else (3, 0)) else
  if xHas (S (24 + p0.toNatClampNeg)).2.1 p1 = false then (3, 0) else (0, if (S (24 + p0.toNatClampNeg)).1 = 1 then xLook (S (24 + p0.toNatClampNeg)).2.1 p1 else 1)

set_option maxRecDepth 100000 in
set_option maxHeartbeats 4000000 in
theorem c_X8_make (l : Launch) (D : va_G) (cy : Nat → ClassId) (N0 : Nat) (h : qH) (y ms mb mw od pt fi re rc rs so ot cn la ro : Nat) (gr cd ca mv ct fau cs ce rn : Int32) (ra rk rv : Nat → Nat) (S : Nat → qSlot) (p0 p1 : Int32) (hY : h y = some (.inr (8, [.ref ms, .ref mb, .ref mw, .int gr, .int cd, .int ca, .int mv, .ref od, .ref pt, .int ct, .int fau, .ref fi, .ref re, .int cs, .ref rc, .ref rs, .ref so, .ref ot, .ref cn, .ref la, .int ce, .ref ro, .int rn]))) (hM : qMR cy h ms mb mw ra rk rv S) : qC l D cy N0 yX8_make cX8_make 4 none 1 22 0 0 [.ref y, .int p0, .int p1] h (fun v h' => v = none ∧ h' y = some (.inr (8, [.ref ms, .ref mb, .ref mw, .int gr, .int (xs_make S p0 p1).1, .int ca, .int mv, .ref od, .ref pt, .int ct, .int fau, .ref fi, .ref re, .int cs, .ref rc, .ref rs, .ref so, .ref ot, .ref cn, .ref la, .int ce, .ref ro, .int rn])) ∧ qMR cy h' ms mb mw ra rk rv ((xs_make S p0 p1).2) ∧ qFm h h' y ra rk rv) (fun E h' => False) := by
  refine q_ofW (by decide) (by exact Nat.le_of_ble_eq_true rfl) ?_
  intro p e s m below meth c ls C hP hl
  have hx := C.1
  have hb := C.2.1
  have hS : va_S (qA N0) s.heap s.heap [] := va_S.rf
  have hl : lv_has ls 4 [(0, .ref y), (1, .int p0), (2, .int p1)] := hl
  have hle : qle h h := qle_rf
  have hY0 := hY
  obtain ⟨hms, hmb, hmw, hmd, hrs, kdw, smw, dpw, rww, nw, fw, gw, hRw⟩ := id hM
  subst hmw
  have fr : ∀ b o, h b = some o → b ≠ y → qOf (ra 28) (rk 28) (rv 28) b → h b = some o := fun b o hb _ _ => hb
  have faw := hRw.2.2.2.1
  have fkw := hRw.2.2.2.2.1
  have fvw := hRw.2.2.2.2.2
  unfold qRb at faw
  unfold qJr at fkw fvw
  refine lv_aload_n hx hb dX8_make_0 rfl (lv_at hl 0 rfl) ?_
  refine lv_iload_n hx hb dX8_make_1 rfl (lv_at hl 1 rfl) ?_
  refine q_callS (rest := [.ref y]) C (c_X8_isSlot l D cy N0 h p0) kX8_isSlot g1246 g1247 hP hS (by first | decide | omega) hl.1 rfl (by simp [q_catrf, q_cati, q_catl, q_cata, q_catn]) (by first | decide | omega) dX8_make_2 (fun q ce E h' H1 locs1 hE => hE.elim) (fun v hh1 H locs hq hP hS => ?_)
  obtain ⟨rfl, ⟨rfl, sl9⟩ | ⟨rfl, sl9⟩⟩ := hq
  · obtain ⟨i, hi, rfl⟩ := sl9.of
    have ebi : bSl (nI i) = true := bSl_t sl9
    have eci : (nI i).toNatClampNeg = i := nI_clamp (by omega)
    refine lv_if_eq (tgt := 22) hx hb dX8_make_5 (by decide) (fun c5 => ?_) (fun c5 => ?_)
    · replace c5 : 1 = 0 := (nI_eq (a := 1) (b := 0) (by omega) (by omega)).mp c5
      exfalso; omega
    · replace c5 : ¬ 1 = 0 := fun zq => c5 ((nI_eq (a := 1) (b := 0) (by omega) (by omega)).mpr zq)
      refine lv_iload_n hx hb dX8_make_8 rfl (lv_at hl 2 rfl) ?_
      refine lv_if_lt (tgt := 22) hx hb dX8_make_9 (by decide) (fun c9 => ?_) (fun c9 => ?_)
      · have ebk : bIn p1 6 = false := bIn_f (fun z => z.1 c9)
        refine lv_iconst (v := nI 0) hx hb dX8_make_22 (by decide) ?_
        refine lv_iconst (v := nI 1) hx hb dX8_make_23 (by decide) ?_
        refine q_callV (rest := []) C (c_X8_good0 l D cy N0 h y ms mb (ra 28) od pt fi re rc rs so ot cn la ro gr cd ca mv ct fau cs ce rn (nI 1) hY) kX8_good g1249 g1251 rfl gp41 g4 hP hS hY (by first | decide | omega) hl.1 rfl (by decide) (by first | decide | omega) dX8_make_24 (fun q ce E h' H1 locs1 hE => hE.elim) (fun v hh2 H locs hq hP hS => ?_)
        obtain ⟨rfl, rfl⟩ := hq
        replace hP : qP D N0 (qs h y (.inr (8, [.ref ms, .ref mb, .ref (ra 28), .int gr, .int (nI 1), .int ca, .int mv, .ref od, .ref pt, .int ct, .int fau, .ref fi, .ref re, .int cs, .ref rc, .ref rs, .ref so, .ref ot, .ref cn, .ref la, .int ce, .ref ro, .int rn]))) H := hP
        obtain ⟨hv1, ehv1⟩ : ∃ z : qH, z = qs h y (.inr (8, [.ref ms, .ref mb, .ref (ra 28), .int gr, .int (nI 1), .int ca, .int mv, .ref od, .ref pt, .int ct, .int fau, .ref fi, .ref re, .int cs, .ref rc, .ref rs, .ref so, .ref ot, .ref cn, .ref la, .int ce, .ref ro, .int rn])) := ⟨_, rfl⟩
        rw [← ehv1] at hP
        have khv1 : ∀ b o, b ≠ y → h b = some o → hv1 b = some o := by rw [ehv1]; exact fun b o nb hb => (qs_ne nb).trans hb
        replace hms := khv1 _ _ (fun q => by subst q; have := hms.symm.trans hY; first | cases this | simp at this) hms
        replace hmb := khv1 _ _ (fun q => by subst q; have := hmb.symm.trans hY; first | cases this | simp at this) hmb
        replace faw := khv1 _ _ (fun q => by have z9 := faw; rw [q] at z9; have := z9.symm.trans hY; first | cases this | simp at this) faw
        replace fkw := khv1 _ _ (fun q => by have z9 := fkw; rw [q] at z9; have := z9.symm.trans hY; first | cases this | simp at this) fkw
        replace fvw := khv1 _ _ (fun q => by have z9 := fvw; rw [q] at z9; have := z9.symm.trans hY; first | cases this | simp at this) fvw
        replace hY : hv1 y = some (.inr (8, [.ref ms, .ref mb, .ref (ra 28), .int gr, .int (nI 1), .int ca, .int mv, .ref od, .ref pt, .int ct, .int fau, .ref fi, .ref re, .int cs, .ref rc, .ref rs, .ref so, .ref ot, .ref cn, .ref la, .int ce, .ref ro, .int rn])) := by rw [ehv1]; exact qs_self
        clear ehv1
        replace fr := fun b o hb n1 n2 => khv1 b o n1 (fr b o hb n1 n2)
        refine lv_if_ne (tgt := 31) hx hb dX8_make_27 (by decide) (fun c27 => ?_) (fun c27 => ?_)
        · replace c27 : ¬ 0 = 0 := fun zq => c27 ((nI_eq (a := 0) (b := 0) (by omega) (by omega)).mpr zq)
          exfalso; omega
        · replace c27 : 0 = 0 := (nI_eq (a := 0) (b := 0) (by omega) (by omega)).mp c27
          have ex : xs_make S (nI i) p1 = (1, S) := by unfold xs_make; rw [if_pos (by simp [ebi, ebk])]
          obtain ⟨m9, f9⟩ := hM.fin0 hY0 (h' := hv1) ⟨hRw.1, hRw.2.1, hRw.2.2.1, faw, fkw, fvw⟩ fr
          exact q_vret C hP hS ⟨rfl, by rw [ex]; exact hY, by rw [ex]; exact m9, f9⟩ (by omega) dX8_make_30
      · refine lv_iload_n hx hb dX8_make_12 rfl (lv_at hl 2 rfl) ?_
        refine lv_bipush (v := 6) hx hb dX8_make_13 (by decide) ?_
        refine lv_icmp_gt (tgt := 22) hx hb dX8_make_15 (by decide) (fun c15 => ?_) (fun c15 => ?_)
        · have ebk : bIn p1 6 = false := bIn_f (fun z => q32_no c15 z.2)
          refine lv_iconst (v := nI 0) hx hb dX8_make_22 (by decide) ?_
          refine lv_iconst (v := nI 1) hx hb dX8_make_23 (by decide) ?_
          refine q_callV (rest := []) C (c_X8_good0 l D cy N0 h y ms mb (ra 28) od pt fi re rc rs so ot cn la ro gr cd ca mv ct fau cs ce rn (nI 1) hY) kX8_good g1249 g1251 rfl gp41 g4 hP hS hY (by first | decide | omega) hl.1 rfl (by decide) (by first | decide | omega) dX8_make_24 (fun q ce E h' H1 locs1 hE => hE.elim) (fun v hh3 H locs hq hP hS => ?_)
          obtain ⟨rfl, rfl⟩ := hq
          replace hP : qP D N0 (qs h y (.inr (8, [.ref ms, .ref mb, .ref (ra 28), .int gr, .int (nI 1), .int ca, .int mv, .ref od, .ref pt, .int ct, .int fau, .ref fi, .ref re, .int cs, .ref rc, .ref rs, .ref so, .ref ot, .ref cn, .ref la, .int ce, .ref ro, .int rn]))) H := hP
          obtain ⟨hv2, ehv2⟩ : ∃ z : qH, z = qs h y (.inr (8, [.ref ms, .ref mb, .ref (ra 28), .int gr, .int (nI 1), .int ca, .int mv, .ref od, .ref pt, .int ct, .int fau, .ref fi, .ref re, .int cs, .ref rc, .ref rs, .ref so, .ref ot, .ref cn, .ref la, .int ce, .ref ro, .int rn])) := ⟨_, rfl⟩
          rw [← ehv2] at hP
          have khv2 : ∀ b o, b ≠ y → h b = some o → hv2 b = some o := by rw [ehv2]; exact fun b o nb hb => (qs_ne nb).trans hb
          replace hms := khv2 _ _ (fun q => by subst q; have := hms.symm.trans hY; first | cases this | simp at this) hms
          replace hmb := khv2 _ _ (fun q => by subst q; have := hmb.symm.trans hY; first | cases this | simp at this) hmb
          replace faw := khv2 _ _ (fun q => by have z9 := faw; rw [q] at z9; have := z9.symm.trans hY; first | cases this | simp at this) faw
          replace fkw := khv2 _ _ (fun q => by have z9 := fkw; rw [q] at z9; have := z9.symm.trans hY; first | cases this | simp at this) fkw
          replace fvw := khv2 _ _ (fun q => by have z9 := fvw; rw [q] at z9; have := z9.symm.trans hY; first | cases this | simp at this) fvw
          replace hY : hv2 y = some (.inr (8, [.ref ms, .ref mb, .ref (ra 28), .int gr, .int (nI 1), .int ca, .int mv, .ref od, .ref pt, .int ct, .int fau, .ref fi, .ref re, .int cs, .ref rc, .ref rs, .ref so, .ref ot, .ref cn, .ref la, .int ce, .ref ro, .int rn])) := by rw [ehv2]; exact qs_self
          clear ehv2
          replace fr := fun b o hb n1 n2 => khv2 b o n1 (fr b o hb n1 n2)
          refine lv_if_ne (tgt := 31) hx hb dX8_make_27 (by decide) (fun c27 => ?_) (fun c27 => ?_)
          · replace c27 : ¬ 0 = 0 := fun zq => c27 ((nI_eq (a := 0) (b := 0) (by omega) (by omega)).mpr zq)
            exfalso; omega
          · replace c27 : 0 = 0 := (nI_eq (a := 0) (b := 0) (by omega) (by omega)).mp c27
            have ex : xs_make S (nI i) p1 = (1, S) := by unfold xs_make; rw [if_pos (by simp [ebi, ebk])]
            obtain ⟨m9, f9⟩ := hM.fin0 hY0 (h' := hv2) ⟨hRw.1, hRw.2.1, hRw.2.2.1, faw, fkw, fvw⟩ fr
            exact q_vret C hP hS ⟨rfl, by rw [ex]; exact hY, by rw [ex]; exact m9, f9⟩ (by omega) dX8_make_30
        · have ebk : bIn p1 6 = true := bIn_t ⟨c9, q32_not c15⟩
          refine lv_iconst (v := nI 1) hx hb dX8_make_18 (by decide) ?_
          refine lv_goto (tgt := 23) hx hb dX8_make_19 (by decide) ?_
          refine lv_iconst (v := nI 1) hx hb dX8_make_23 (by decide) ?_
          refine q_callV (rest := []) C (c_X8_good1 l D cy N0 h y ms mb (ra 28) od pt fi re rc rs so ot cn la ro gr cd ca mv ct fau cs ce rn (nI 1) hY) kX8_good g1249 g1251 rfl gp41 g4 hP hS hY (by first | decide | omega) hl.1 rfl (by decide) (by first | decide | omega) dX8_make_24 (fun q ce E h' H1 locs1 hE => hE.elim) (fun v hh4 H locs hq hP hS => ?_)
          obtain ⟨rfl, rfl⟩ := hq
          replace hP : qP D N0 (qs h y (.inr (8, [.ref ms, .ref mb, .ref (ra 28), .int gr, .int 0, .int ca, .int mv, .ref od, .ref pt, .int ct, .int fau, .ref fi, .ref re, .int cs, .ref rc, .ref rs, .ref so, .ref ot, .ref cn, .ref la, .int ce, .ref ro, .int rn]))) H := hP
          obtain ⟨hv3, ehv3⟩ : ∃ z : qH, z = qs h y (.inr (8, [.ref ms, .ref mb, .ref (ra 28), .int gr, .int 0, .int ca, .int mv, .ref od, .ref pt, .int ct, .int fau, .ref fi, .ref re, .int cs, .ref rc, .ref rs, .ref so, .ref ot, .ref cn, .ref la, .int ce, .ref ro, .int rn])) := ⟨_, rfl⟩
          rw [← ehv3] at hP
          have khv3 : ∀ b o, b ≠ y → h b = some o → hv3 b = some o := by rw [ehv3]; exact fun b o nb hb => (qs_ne nb).trans hb
          replace hms := khv3 _ _ (fun q => by subst q; have := hms.symm.trans hY; first | cases this | simp at this) hms
          replace hmb := khv3 _ _ (fun q => by subst q; have := hmb.symm.trans hY; first | cases this | simp at this) hmb
          replace faw := khv3 _ _ (fun q => by have z9 := faw; rw [q] at z9; have := z9.symm.trans hY; first | cases this | simp at this) faw
          replace fkw := khv3 _ _ (fun q => by have z9 := fkw; rw [q] at z9; have := z9.symm.trans hY; first | cases this | simp at this) fkw
          replace fvw := khv3 _ _ (fun q => by have z9 := fvw; rw [q] at z9; have := z9.symm.trans hY; first | cases this | simp at this) fvw
          replace hY : hv3 y = some (.inr (8, [.ref ms, .ref mb, .ref (ra 28), .int gr, .int 0, .int ca, .int mv, .ref od, .ref pt, .int ct, .int fau, .ref fi, .ref re, .int cs, .ref rc, .ref rs, .ref so, .ref ot, .ref cn, .ref la, .int ce, .ref ro, .int rn])) := by rw [ehv3]; exact qs_self
          clear ehv3
          replace fr := fun b o hb n1 n2 => khv3 b o n1 (fr b o hb n1 n2)
          refine lv_if_ne (tgt := 31) hx hb dX8_make_27 (by decide) (fun c27 => ?_) (fun c27 => ?_)
          · replace c27 : ¬ 1 = 0 := fun zq => c27 ((nI_eq (a := 1) (b := 0) (by omega) (by omega)).mpr zq)
            refine lv_aload_n hx hb dX8_make_31 rfl (lv_at hl 0 rfl) ?_
            refine q_get C hP hY rfl inX8 0 (by decide) g1167 rfl dX8_make_32 ?_
            refine lv_iload_n hx hb dX8_make_35 rfl (lv_at hl 1 rfl) ?_
            refine q_aaldR C hP hms rfl (by omega) (by omega) rfl dX8_make_36 ?_
            obtain ⟨ni, rwi, Fi, Gi, hRi, hni, hLi, hKi⟩ := hrs i (by omega)
            have api := hRi.apart hRw (hmd.two (i := i) (j := 28) (by omega) (by omega) (by omega))
            replace hRi := hRi.keep2 (fun b o hb ho => fr b o ho (hRi.ney hY0 hb) (hb.elim (fun q => q ▸ api.1) (fun hb => hb.elim (fun q => q ▸ api.2.1) (fun q => q ▸ api.2.2))))
            have fai := hRi.2.2.2.1
            have fki := hRi.2.2.2.2.1
            have fvi := hRi.2.2.2.2.2
            unfold qRb at fai
            unfold qJr at fki fvi
            refine lv_astore_n (lv' := [(3, .ref (ra i)), (0, .ref y), (1, .int (nI i)), (2, .int p1)]) hx hb dX8_make_37 rfl hl (by decide) rfl (fun ls hl => ?_)
            replace fr := fun b o hb n1 n2 (n3 : qOf (ra i) (rk i) (rv i) b) => fr b o hb n1 n2
            refine lv_aload_n hx hb dX8_make_38 rfl (lv_at hl 0 rfl) ?_
            refine lv_iload_n hx hb dX8_make_39 rfl (lv_at hl 3 rfl) ?_
            refine q_put C hP hS fai rfl inX7 tyX7 tyX7_ok nmX7 2 (by decide) g1142 rfl rfl rfl (Nat.le_of_ble_eq_true rfl) dX8_make_40 (fun H locs hP hS => ?_)
            replace hP : qP D N0 (qs hv3 (ra i) (.inr (7, [.ref (rk i), .ref (rv i), .int p1, .int (nI ni), .int (nI (S i).2.2.1), .int (nI (S i).2.2.2), .int rwi]))) H := hP
            obtain ⟨hv4, ehv4⟩ : ∃ z : qH, z = qs hv3 (ra i) (.inr (7, [.ref (rk i), .ref (rv i), .int p1, .int (nI ni), .int (nI (S i).2.2.1), .int (nI (S i).2.2.2), .int rwi])) := ⟨_, rfl⟩
            rw [← ehv4] at hP
            have khv4 : ∀ b o, b ≠ (ra i) → hv3 b = some o → hv4 b = some o := by rw [ehv4]; exact fun b o nb hb => (qs_ne nb).trans hb
            replace hY := khv4 _ _ (fun q => by have z9 := hY; rw [q] at z9; have := z9.symm.trans fai; first | cases this | simp at this) hY
            replace hms := khv4 _ _ (fun q => by have z9 := hms; rw [q] at z9; have := z9.symm.trans fai; first | cases this | simp at this) hms
            replace hmb := khv4 _ _ (fun q => by have z9 := hmb; rw [q] at z9; have := z9.symm.trans fai; first | cases this | simp at this) hmb
            replace faw := khv4 _ _ (Ne.symm api.1.1) faw
            replace fkw := khv4 _ _ (Ne.symm api.1.2.1) fkw
            replace fvw := khv4 _ _ (Ne.symm api.1.2.2) fvw
            replace fki := khv4 _ _ (fun q => by have z9 := fki; rw [q] at z9; have := z9.symm.trans fai; first | cases this | simp at this) fki
            replace fvi := khv4 _ _ (fun q => by have z9 := fvi; rw [q] at z9; have := z9.symm.trans fai; first | cases this | simp at this) fvi
            replace fai : hv4 (ra i) = some (.inr (7, [.ref (rk i), .ref (rv i), .int p1, .int (nI ni), .int (nI (S i).2.2.1), .int (nI (S i).2.2.2), .int rwi])) := by rw [ehv4]; exact qs_self
            clear ehv4
            replace fr := fun b o hb n1 n2 n3 => khv4 b o n3.1 (fr b o hb n1 n2 n3)
            refine lv_aload_n hx hb dX8_make_43 rfl (lv_at hl 0 rfl) ?_
            refine lv_iconst (v := nI 0) hx hb dX8_make_44 (by decide) ?_
            refine q_put C hP hS fai rfl inX7 tyX7 tyX7_ok nmX7 3 (by decide) g1143 rfl rfl rfl (Nat.le_of_ble_eq_true rfl) dX8_make_45 (fun H locs hP hS => ?_)
            replace hP : qP D N0 (qs hv4 (ra i) (.inr (7, [.ref (rk i), .ref (rv i), .int p1, .int (nI 0), .int (nI (S i).2.2.1), .int (nI (S i).2.2.2), .int rwi]))) H := hP
            obtain ⟨hv5, ehv5⟩ : ∃ z : qH, z = qs hv4 (ra i) (.inr (7, [.ref (rk i), .ref (rv i), .int p1, .int (nI 0), .int (nI (S i).2.2.1), .int (nI (S i).2.2.2), .int rwi])) := ⟨_, rfl⟩
            rw [← ehv5] at hP
            have khv5 : ∀ b o, b ≠ (ra i) → hv4 b = some o → hv5 b = some o := by rw [ehv5]; exact fun b o nb hb => (qs_ne nb).trans hb
            replace hY := khv5 _ _ (fun q => by have z9 := hY; rw [q] at z9; have := z9.symm.trans fai; first | cases this | simp at this) hY
            replace hms := khv5 _ _ (fun q => by have z9 := hms; rw [q] at z9; have := z9.symm.trans fai; first | cases this | simp at this) hms
            replace hmb := khv5 _ _ (fun q => by have z9 := hmb; rw [q] at z9; have := z9.symm.trans fai; first | cases this | simp at this) hmb
            replace faw := khv5 _ _ (Ne.symm api.1.1) faw
            replace fkw := khv5 _ _ (Ne.symm api.1.2.1) fkw
            replace fvw := khv5 _ _ (Ne.symm api.1.2.2) fvw
            replace fki := khv5 _ _ (fun q => by have z9 := fki; rw [q] at z9; have := z9.symm.trans fai; first | cases this | simp at this) fki
            replace fvi := khv5 _ _ (fun q => by have z9 := fvi; rw [q] at z9; have := z9.symm.trans fai; first | cases this | simp at this) fvi
            replace fai : hv5 (ra i) = some (.inr (7, [.ref (rk i), .ref (rv i), .int p1, .int (nI 0), .int (nI (S i).2.2.1), .int (nI (S i).2.2.2), .int rwi])) := by rw [ehv5]; exact qs_self
            clear ehv5
            replace fr := fun b o hb n1 n2 n3 => khv5 b o n3.1 (fr b o hb n1 n2 n3)
            refine lv_aload_n hx hb dX8_make_48 rfl (lv_at hl 0 rfl) ?_
            refine lv_iconst (v := nI 0) hx hb dX8_make_49 (by decide) ?_
            refine q_put C hP hS fai rfl inX7 tyX7 tyX7_ok nmX7 4 (by decide) g1144 rfl rfl rfl (Nat.le_of_ble_eq_true rfl) dX8_make_50 (fun H locs hP hS => ?_)
            replace hP : qP D N0 (qs hv5 (ra i) (.inr (7, [.ref (rk i), .ref (rv i), .int p1, .int (nI 0), .int (nI 0), .int (nI (S i).2.2.2), .int rwi]))) H := hP
            obtain ⟨hv6, ehv6⟩ : ∃ z : qH, z = qs hv5 (ra i) (.inr (7, [.ref (rk i), .ref (rv i), .int p1, .int (nI 0), .int (nI 0), .int (nI (S i).2.2.2), .int rwi])) := ⟨_, rfl⟩
            rw [← ehv6] at hP
            have khv6 : ∀ b o, b ≠ (ra i) → hv5 b = some o → hv6 b = some o := by rw [ehv6]; exact fun b o nb hb => (qs_ne nb).trans hb
            replace hY := khv6 _ _ (fun q => by have z9 := hY; rw [q] at z9; have := z9.symm.trans fai; first | cases this | simp at this) hY
            replace hms := khv6 _ _ (fun q => by have z9 := hms; rw [q] at z9; have := z9.symm.trans fai; first | cases this | simp at this) hms
            replace hmb := khv6 _ _ (fun q => by have z9 := hmb; rw [q] at z9; have := z9.symm.trans fai; first | cases this | simp at this) hmb
            replace faw := khv6 _ _ (Ne.symm api.1.1) faw
            replace fkw := khv6 _ _ (Ne.symm api.1.2.1) fkw
            replace fvw := khv6 _ _ (Ne.symm api.1.2.2) fvw
            replace fki := khv6 _ _ (fun q => by have z9 := fki; rw [q] at z9; have := z9.symm.trans fai; first | cases this | simp at this) fki
            replace fvi := khv6 _ _ (fun q => by have z9 := fvi; rw [q] at z9; have := z9.symm.trans fai; first | cases this | simp at this) fvi
            replace fai : hv6 (ra i) = some (.inr (7, [.ref (rk i), .ref (rv i), .int p1, .int (nI 0), .int (nI 0), .int (nI (S i).2.2.2), .int rwi])) := by rw [ehv6]; exact qs_self
            clear ehv6
            replace fr := fun b o hb n1 n2 n3 => khv6 b o n3.1 (fr b o hb n1 n2 n3)
            refine lv_aload_n hx hb dX8_make_53 rfl (lv_at hl 0 rfl) ?_
            refine lv_iconst (v := nI 0) hx hb dX8_make_54 (by decide) ?_
            refine q_put C hP hS fai rfl inX7 tyX7 tyX7_ok nmX7 5 (by decide) g1145 rfl rfl rfl (Nat.le_of_ble_eq_true rfl) dX8_make_55 (fun H locs hP hS => ?_)
            replace hP : qP D N0 (qs hv6 (ra i) (.inr (7, [.ref (rk i), .ref (rv i), .int p1, .int (nI 0), .int (nI 0), .int (nI 0), .int rwi]))) H := hP
            obtain ⟨hv7, ehv7⟩ : ∃ z : qH, z = qs hv6 (ra i) (.inr (7, [.ref (rk i), .ref (rv i), .int p1, .int (nI 0), .int (nI 0), .int (nI 0), .int rwi])) := ⟨_, rfl⟩
            rw [← ehv7] at hP
            have khv7 : ∀ b o, b ≠ (ra i) → hv6 b = some o → hv7 b = some o := by rw [ehv7]; exact fun b o nb hb => (qs_ne nb).trans hb
            replace hY := khv7 _ _ (fun q => by have z9 := hY; rw [q] at z9; have := z9.symm.trans fai; first | cases this | simp at this) hY
            replace hms := khv7 _ _ (fun q => by have z9 := hms; rw [q] at z9; have := z9.symm.trans fai; first | cases this | simp at this) hms
            replace hmb := khv7 _ _ (fun q => by have z9 := hmb; rw [q] at z9; have := z9.symm.trans fai; first | cases this | simp at this) hmb
            replace faw := khv7 _ _ (Ne.symm api.1.1) faw
            replace fkw := khv7 _ _ (Ne.symm api.1.2.1) fkw
            replace fvw := khv7 _ _ (Ne.symm api.1.2.2) fvw
            replace fki := khv7 _ _ (fun q => by have z9 := fki; rw [q] at z9; have := z9.symm.trans fai; first | cases this | simp at this) fki
            replace fvi := khv7 _ _ (fun q => by have z9 := fvi; rw [q] at z9; have := z9.symm.trans fai; first | cases this | simp at this) fvi
            replace fai : hv7 (ra i) = some (.inr (7, [.ref (rk i), .ref (rv i), .int p1, .int (nI 0), .int (nI 0), .int (nI 0), .int rwi])) := by rw [ehv7]; exact qs_self
            clear ehv7
            replace fr := fun b o hb n1 n2 n3 => khv7 b o n3.1 (fr b o hb n1 n2 n3)
            refine lv_aload_n hx hb dX8_make_58 rfl (lv_at hl 0 rfl) ?_
            refine lv_iconst (v := -1) hx hb dX8_make_59 (by decide) ?_
            refine q_put C hP hS fai rfl inX7 tyX7 tyX7_ok nmX7 6 (by decide) g1147 rfl rfl rfl (Nat.le_of_ble_eq_true rfl) dX8_make_60 (fun H locs hP hS => ?_)
            replace hP : qP D N0 (qs hv7 (ra i) (.inr (7, [.ref (rk i), .ref (rv i), .int p1, .int (nI 0), .int (nI 0), .int (nI 0), .int (-1)]))) H := hP
            obtain ⟨hv8, ehv8⟩ : ∃ z : qH, z = qs hv7 (ra i) (.inr (7, [.ref (rk i), .ref (rv i), .int p1, .int (nI 0), .int (nI 0), .int (nI 0), .int (-1)])) := ⟨_, rfl⟩
            rw [← ehv8] at hP
            have khv8 : ∀ b o, b ≠ (ra i) → hv7 b = some o → hv8 b = some o := by rw [ehv8]; exact fun b o nb hb => (qs_ne nb).trans hb
            replace hY := khv8 _ _ (fun q => by have z9 := hY; rw [q] at z9; have := z9.symm.trans fai; first | cases this | simp at this) hY
            replace hms := khv8 _ _ (fun q => by have z9 := hms; rw [q] at z9; have := z9.symm.trans fai; first | cases this | simp at this) hms
            replace hmb := khv8 _ _ (fun q => by have z9 := hmb; rw [q] at z9; have := z9.symm.trans fai; first | cases this | simp at this) hmb
            replace faw := khv8 _ _ (Ne.symm api.1.1) faw
            replace fkw := khv8 _ _ (Ne.symm api.1.2.1) fkw
            replace fvw := khv8 _ _ (Ne.symm api.1.2.2) fvw
            replace fki := khv8 _ _ (fun q => by have z9 := fki; rw [q] at z9; have := z9.symm.trans fai; first | cases this | simp at this) fki
            replace fvi := khv8 _ _ (fun q => by have z9 := fvi; rw [q] at z9; have := z9.symm.trans fai; first | cases this | simp at this) fvi
            replace fai : hv8 (ra i) = some (.inr (7, [.ref (rk i), .ref (rv i), .int p1, .int (nI 0), .int (nI 0), .int (nI 0), .int (-1)])) := by rw [ehv8]; exact qs_self
            clear ehv8
            replace fr := fun b o hb n1 n2 n3 => khv8 b o n3.1 (fr b o hb n1 n2 n3)
            have ex : xs_make S (nI i) p1 = (0, qU S i (p1, [], 0, 0)) := by unfold xs_make; rw [if_neg (by simp [ebi, ebk]), eci]
            obtain ⟨m9, f9⟩ := hM.fin hY0 (i := i) (by omega) (s := (p1, [], 0, 0)) ⟨0, _, _, _, ⟨hRi.1, hRi.2.1, hRi.2.2.1, fai, fki, fvi⟩, by omega, rfl, by first | exact Or.inl rfl | exact xRo.mv (by omega) hKj | exact xRo.bl (by omega) hKbb⟩ ⟨hRw.1, hRw.2.1, hRw.2.2.1, faw, fkw, fvw⟩ fr
            exact q_vret C hP hS ⟨rfl, by rw [ex]; exact hY, by rw [ex]; exact m9, f9⟩ (by omega) dX8_make_63
          · replace c27 : 1 = 0 := (nI_eq (a := 1) (b := 0) (by omega) (by omega)).mp c27
            exfalso; omega
  · have ebi : bSl p0 = false := bSl_f sl9
    refine lv_if_eq (tgt := 22) hx hb dX8_make_5 (by decide) (fun c5 => ?_) (fun c5 => ?_)
    · replace c5 : 0 = 0 := (nI_eq (a := 0) (b := 0) (by omega) (by omega)).mp c5
      refine lv_iconst (v := nI 0) hx hb dX8_make_22 (by decide) ?_
      refine lv_iconst (v := nI 1) hx hb dX8_make_23 (by decide) ?_
      refine q_callV (rest := []) C (c_X8_good0 l D cy N0 h y ms mb (ra 28) od pt fi re rc rs so ot cn la ro gr cd ca mv ct fau cs ce rn (nI 1) hY) kX8_good g1249 g1251 rfl gp41 g4 hP hS hY (by first | decide | omega) hl.1 rfl (by decide) (by first | decide | omega) dX8_make_24 (fun q ce E h' H1 locs1 hE => hE.elim) (fun v hh5 H locs hq hP hS => ?_)
      obtain ⟨rfl, rfl⟩ := hq
      replace hP : qP D N0 (qs h y (.inr (8, [.ref ms, .ref mb, .ref (ra 28), .int gr, .int (nI 1), .int ca, .int mv, .ref od, .ref pt, .int ct, .int fau, .ref fi, .ref re, .int cs, .ref rc, .ref rs, .ref so, .ref ot, .ref cn, .ref la, .int ce, .ref ro, .int rn]))) H := hP
      obtain ⟨hv9, ehv9⟩ : ∃ z : qH, z = qs h y (.inr (8, [.ref ms, .ref mb, .ref (ra 28), .int gr, .int (nI 1), .int ca, .int mv, .ref od, .ref pt, .int ct, .int fau, .ref fi, .ref re, .int cs, .ref rc, .ref rs, .ref so, .ref ot, .ref cn, .ref la, .int ce, .ref ro, .int rn])) := ⟨_, rfl⟩
      rw [← ehv9] at hP
      have khv9 : ∀ b o, b ≠ y → h b = some o → hv9 b = some o := by rw [ehv9]; exact fun b o nb hb => (qs_ne nb).trans hb
      replace hms := khv9 _ _ (fun q => by subst q; have := hms.symm.trans hY; first | cases this | simp at this) hms
      replace hmb := khv9 _ _ (fun q => by subst q; have := hmb.symm.trans hY; first | cases this | simp at this) hmb
      replace faw := khv9 _ _ (fun q => by have z9 := faw; rw [q] at z9; have := z9.symm.trans hY; first | cases this | simp at this) faw
      replace fkw := khv9 _ _ (fun q => by have z9 := fkw; rw [q] at z9; have := z9.symm.trans hY; first | cases this | simp at this) fkw
      replace fvw := khv9 _ _ (fun q => by have z9 := fvw; rw [q] at z9; have := z9.symm.trans hY; first | cases this | simp at this) fvw
      replace hY : hv9 y = some (.inr (8, [.ref ms, .ref mb, .ref (ra 28), .int gr, .int (nI 1), .int ca, .int mv, .ref od, .ref pt, .int ct, .int fau, .ref fi, .ref re, .int cs, .ref rc, .ref rs, .ref so, .ref ot, .ref cn, .ref la, .int ce, .ref ro, .int rn])) := by rw [ehv9]; exact qs_self
      clear ehv9
      replace fr := fun b o hb n1 n2 => khv9 b o n1 (fr b o hb n1 n2)
      refine lv_if_ne (tgt := 31) hx hb dX8_make_27 (by decide) (fun c27 => ?_) (fun c27 => ?_)
      · replace c27 : ¬ 0 = 0 := fun zq => c27 ((nI_eq (a := 0) (b := 0) (by omega) (by omega)).mpr zq)
        exfalso; omega
      · replace c27 : 0 = 0 := (nI_eq (a := 0) (b := 0) (by omega) (by omega)).mp c27
        have ex : xs_make S p0 p1 = (1, S) := by unfold xs_make; rw [if_pos (by simp [ebi])]
        obtain ⟨m9, f9⟩ := hM.fin0 hY0 (h' := hv9) ⟨hRw.1, hRw.2.1, hRw.2.2.1, faw, fkw, fvw⟩ fr
        exact q_vret C hP hS ⟨rfl, by rw [ex]; exact hY, by rw [ex]; exact m9, f9⟩ (by omega) dX8_make_30
    · replace c5 : ¬ 0 = 0 := fun zq => c5 ((nI_eq (a := 0) (b := 0) (by omega) (by omega)).mpr zq)
      exfalso; omega


set_option maxRecDepth 100000 in
set_option maxHeartbeats 4000000 in
theorem c_X8_copy_self (l : Launch) (D : va_G) (cy : Nat → ClassId) (N0 : Nat) (h : qH) (a ka va : Nat) (kd sm dp rw : Int32) (n : Nat) (f g : Nat → Int64) (hR : qRw cy h a ka va kd (nI n) sm dp rw f g) (hn : n ≤ 1001) : qC l D cy N0 yX8_copy cX8_copy 3 none 0 0 0 0 [.ref a, .ref a] h (fun v h' => v = none ∧ h = h') (fun E h' => False) := by
  refine q_ofW (by decide) (by exact Nat.le_of_ble_eq_true rfl) ?_
  intro p e s m below meth c ls C hP hl
  have hx := C.1
  have hb := C.2.1
  have hS : va_S (qA N0) s.heap s.heap [] := va_S.rf
  have hl : lv_has ls 3 [(0, .ref a), (1, .ref a)] := hl
  have hle : qle h h := qle_rf
  rw [← hR.same] at hP
  have hR9 := hR.new (kd2 := kd) (n2 := (nI n)) (sm2 := sm) (dp2 := dp) (rw2 := rw) (f2 := f) (g2 := g)
  have fa := hR9.2.2.2.1
  have fk := hR9.2.2.2.2.1
  have fv := hR9.2.2.2.2.2
  unfold qRb at fa
  unfold qJr at fk fv
  refine lv_aload_n hx hb dX8_copy_0 rfl (lv_at hl 1 rfl) ?_
  refine lv_aload_n hx hb dX8_copy_1 rfl (lv_at hl 0 rfl) ?_
  refine q_get C hP fa rfl inX7 2 (by decide) g1142 rfl dX8_copy_2 ?_
  refine q_put C hP hS fa rfl inX7 tyX7 tyX7_ok nmX7 2 (by decide) g1142 rfl rfl rfl (Nat.le_of_ble_eq_true rfl) dX8_copy_5 (fun H locs hP hS => ?_)
  replace hP : qP D N0 (qs (qRh cy h a ka va kd (nI n) sm dp rw f g) a (.inr (7, [.ref ka, .ref va, .int kd, .int (nI n), .int sm, .int dp, .int rw]))) H := hP
  rw [qRh_seta] at hP
  have hR9 := hR.new (kd2 := kd) (n2 := (nI n)) (sm2 := sm) (dp2 := dp) (rw2 := rw) (f2 := f) (g2 := g)
  have fa := hR9.2.2.2.1
  have fk := hR9.2.2.2.2.1
  have fv := hR9.2.2.2.2.2
  unfold qRb at fa
  unfold qJr at fk fv
  replace hP : qP D N0 (qRh cy h a ka va kd (nI n) sm dp rw f g) H := hP
  refine lv_aload_n hx hb dX8_copy_8 rfl (lv_at hl 1 rfl) ?_
  refine lv_aload_n hx hb dX8_copy_9 rfl (lv_at hl 0 rfl) ?_
  refine q_get C hP fa rfl inX7 3 (by decide) g1143 rfl dX8_copy_10 ?_
  refine q_put C hP hS fa rfl inX7 tyX7 tyX7_ok nmX7 3 (by decide) g1143 rfl rfl rfl (Nat.le_of_ble_eq_true rfl) dX8_copy_13 (fun H locs hP hS => ?_)
  replace hP : qP D N0 (qs (qRh cy h a ka va kd (nI n) sm dp rw f g) a (.inr (7, [.ref ka, .ref va, .int kd, .int (nI n), .int sm, .int dp, .int rw]))) H := hP
  rw [qRh_seta] at hP
  have hR9 := hR.new (kd2 := kd) (n2 := (nI n)) (sm2 := sm) (dp2 := dp) (rw2 := rw) (f2 := f) (g2 := g)
  have fa := hR9.2.2.2.1
  have fk := hR9.2.2.2.2.1
  have fv := hR9.2.2.2.2.2
  unfold qRb at fa
  unfold qJr at fk fv
  replace hP : qP D N0 (qRh cy h a ka va kd (nI n) sm dp rw f g) H := hP
  refine lv_aload_n hx hb dX8_copy_16 rfl (lv_at hl 1 rfl) ?_
  refine lv_aload_n hx hb dX8_copy_17 rfl (lv_at hl 0 rfl) ?_
  refine q_get C hP fa rfl inX7 4 (by decide) g1144 rfl dX8_copy_18 ?_
  refine q_put C hP hS fa rfl inX7 tyX7 tyX7_ok nmX7 4 (by decide) g1144 rfl rfl rfl (Nat.le_of_ble_eq_true rfl) dX8_copy_21 (fun H locs hP hS => ?_)
  replace hP : qP D N0 (qs (qRh cy h a ka va kd (nI n) sm dp rw f g) a (.inr (7, [.ref ka, .ref va, .int kd, .int (nI n), .int sm, .int dp, .int rw]))) H := hP
  rw [qRh_seta] at hP
  have hR9 := hR.new (kd2 := kd) (n2 := (nI n)) (sm2 := sm) (dp2 := dp) (rw2 := rw) (f2 := f) (g2 := g)
  have fa := hR9.2.2.2.1
  have fk := hR9.2.2.2.2.1
  have fv := hR9.2.2.2.2.2
  unfold qRb at fa
  unfold qJr at fk fv
  replace hP : qP D N0 (qRh cy h a ka va kd (nI n) sm dp rw f g) H := hP
  refine lv_aload_n hx hb dX8_copy_24 rfl (lv_at hl 1 rfl) ?_
  refine lv_aload_n hx hb dX8_copy_25 rfl (lv_at hl 0 rfl) ?_
  refine q_get C hP fa rfl inX7 5 (by decide) g1145 rfl dX8_copy_26 ?_
  refine q_put C hP hS fa rfl inX7 tyX7 tyX7_ok nmX7 5 (by decide) g1145 rfl rfl rfl (Nat.le_of_ble_eq_true rfl) dX8_copy_29 (fun H locs hP hS => ?_)
  replace hP : qP D N0 (qs (qRh cy h a ka va kd (nI n) sm dp rw f g) a (.inr (7, [.ref ka, .ref va, .int kd, .int (nI n), .int sm, .int dp, .int rw]))) H := hP
  rw [qRh_seta] at hP
  have hR9 := hR.new (kd2 := kd) (n2 := (nI n)) (sm2 := sm) (dp2 := dp) (rw2 := rw) (f2 := f) (g2 := g)
  have fa := hR9.2.2.2.1
  have fk := hR9.2.2.2.2.1
  have fv := hR9.2.2.2.2.2
  unfold qRb at fa
  unfold qJr at fk fv
  replace hP : qP D N0 (qRh cy h a ka va kd (nI n) sm dp rw f g) H := hP
  refine lv_aload_n hx hb dX8_copy_32 rfl (lv_at hl 1 rfl) ?_
  refine lv_aload_n hx hb dX8_copy_33 rfl (lv_at hl 0 rfl) ?_
  refine q_get C hP fa rfl inX7 6 (by decide) g1147 rfl dX8_copy_34 ?_
  refine q_put C hP hS fa rfl inX7 tyX7 tyX7_ok nmX7 6 (by decide) g1147 rfl rfl rfl (Nat.le_of_ble_eq_true rfl) dX8_copy_37 (fun H locs hP hS => ?_)
  replace hP : qP D N0 (qs (qRh cy h a ka va kd (nI n) sm dp rw f g) a (.inr (7, [.ref ka, .ref va, .int kd, .int (nI n), .int sm, .int dp, .int rw]))) H := hP
  rw [qRh_seta] at hP
  have hR9 := hR.new (kd2 := kd) (n2 := (nI n)) (sm2 := sm) (dp2 := dp) (rw2 := rw) (f2 := f) (g2 := g)
  have fa := hR9.2.2.2.1
  have fk := hR9.2.2.2.2.1
  have fv := hR9.2.2.2.2.2
  unfold qRb at fa
  unfold qJr at fk fv
  replace hP : qP D N0 (qRh cy h a ka va kd (nI n) sm dp rw f g) H := hP
  refine lv_iconst (v := nI 0) hx hb dX8_copy_40 (by decide) ?_
  refine lv_istore_n (lv' := [(2, .int (nI 0)), (0, .ref a), (1, .ref a)]) hx hb dX8_copy_41 rfl hl (by decide) rfl (fun ls hl => ?_)
  refine (?_ : ∀ (t : Nat) (H : Heap) (locs : List Loc) (ls : Array Slot) (i : Nat), n - i < t → lv_has ls 3 [(2, .int (nI i)), (0, .ref a), (1, .ref a)] → i ≤ n → qP D N0 (qRh cy h a ka va kd (nI n) sm dp rw (qCp f f i) (qCp g g i)) H → va_S (qA N0) s.heap H locs → W p l e _ s m _ below meth c H locs 0 0 _ (F0 m 42 ls [])) _ H locs ls 0 (Nat.lt_succ_self _) (lv_sub hl [0, 1, 2] rfl) (Nat.zero_le _) (by rw [qCp_0, qCp_0]; exact hP) hS
  clear hl hP hS
  intro t
  induction t with
  | zero => intro H locs ls i ht; exact absurd ht (Nat.not_lt_zero _)
  | succ t ihl =>
    intro H locs ls i ht hl hi hP hS
    have eqf : ∀ q : Nat → Int64, qCp q q i = q := fun q => funext fun j => by unfold qCp; split <;> rfl
    rw [eqf, eqf] at hP
    have hR9 := hR.new (kd2 := kd) (n2 := (nI n)) (sm2 := sm) (dp2 := dp) (rw2 := rw) (f2 := f) (g2 := g)
    have fa := hR9.2.2.2.1
    have fk := hR9.2.2.2.2.1
    have fv := hR9.2.2.2.2.2
    unfold qRb at fa
    unfold qJr at fk fv
    refine lv_iload_n hx hb dX8_copy_42 rfl (lv_at hl 0 rfl) ?_
    refine lv_aload_n hx hb dX8_copy_43 rfl (lv_at hl 1 rfl) ?_
    refine q_get C hP fa rfl inX7 3 (by decide) g1143 rfl dX8_copy_44 ?_
    refine lv_icmp_ge (tgt := 80) hx hb dX8_copy_47 (by decide) (fun c47 => ?_) (fun c47 => ?_)
    · replace c47 : n ≤ i := (nI_leI (a := n) (b := i) (by omega) (by omega)).mp c47
      exact q_vret C (by rw [hR.same] at hP; exact hP) hS ⟨rfl, rfl⟩ (by omega) dX8_copy_80
    · replace c47 : ¬ n ≤ i := fun zq => c47 ((nI_leI (a := n) (b := i) (by omega) (by omega)).mpr zq)
      refine lv_aload_n hx hb dX8_copy_50 rfl (lv_at hl 2 rfl) ?_
      refine q_get C hP fa rfl inX7 0 (by decide) g1138 rfl dX8_copy_51 ?_
      refine lv_iload_n hx hb dX8_copy_54 rfl (lv_at hl 0 rfl) ?_
      refine lv_aload_n hx hb dX8_copy_55 rfl (lv_at hl 1 rfl) ?_
      refine q_get C hP fa rfl inX7 0 (by decide) g1138 rfl dX8_copy_56 ?_
      refine lv_iload_n hx hb dX8_copy_59 rfl (lv_at hl 0 rfl) ?_
      refine q_laldN C hP fk (by omega) (by omega) dX8_copy_60 ?_
      refine q_lastN C hP hS fk (by omega) (by omega) dX8_copy_61 (fun H locs hP hS => ?_)
      rw [hR.setk] at hP
      have hR9 := hR.new (kd2 := kd) (n2 := (nI n)) (sm2 := sm) (dp2 := dp) (rw2 := rw) (f2 := vp_updL f i (f i)) (g2 := g)
      have fa := hR9.2.2.2.1
      have fk := hR9.2.2.2.2.1
      have fv := hR9.2.2.2.2.2
      unfold qRb at fa
      unfold qJr at fk fv
      refine lv_aload_n hx hb dX8_copy_62 rfl (lv_at hl 2 rfl) ?_
      refine q_get C hP fa rfl inX7 1 (by decide) g1140 rfl dX8_copy_63 ?_
      refine lv_iload_n hx hb dX8_copy_66 rfl (lv_at hl 0 rfl) ?_
      refine lv_aload_n hx hb dX8_copy_67 rfl (lv_at hl 1 rfl) ?_
      refine q_get C hP fa rfl inX7 1 (by decide) g1140 rfl dX8_copy_68 ?_
      refine lv_iload_n hx hb dX8_copy_71 rfl (lv_at hl 0 rfl) ?_
      refine q_laldN C hP fv (by omega) (by omega) dX8_copy_72 ?_
      refine q_lastN C hP hS fv (by omega) (by omega) dX8_copy_73 (fun H locs hP hS => ?_)
      rw [hR.setv] at hP
      have hR9 := hR.new (kd2 := kd) (n2 := (nI n)) (sm2 := sm) (dp2 := dp) (rw2 := rw) (f2 := vp_updL f i (f i)) (g2 := vp_updL g i (g i))
      have fa := hR9.2.2.2.1
      have fk := hR9.2.2.2.2.1
      have fv := hR9.2.2.2.2.2
      unfold qRb at fa
      unfold qJr at fk fv
      refine lv_iinc (v := nI (i + 1)) (lv' := [(2, .int (nI (i + 1))), (0, .ref a), (1, .ref a)]) hx hb dX8_copy_74 hl (k := 0) rfl (nI_1 i) (by decide) rfl (fun ls hl => ?_)
      refine lv_goto (tgt := 42) hx hb dX8_copy_77 (by decide) ?_
      exact ihl H locs ls (i + 1) (by omega) (lv_sub hl [0, 1, 2] rfl) (by omega) (by have e1 := qCp_step (s := f) (f := f) (n := i); have e2 := qCp_step (s := g) (f := g) (n := i); rw [eqf] at e1 e2; rw [e1, e2] at hP; exact hP) hS

theorem dX8_copy__40 : decode cX8_copy_ 40 = .ok (.iconst 1, 1) := by decide +kernel
theorem dX8_copy__41 : decode cX8_copy_ 41 = .ok (.goto 4, 3) := by decide +kernel
theorem dX8_copy__53 : decode cX8_copy_ 53 = .ok (.aload_n 0, 1) := by decide +kernel
theorem dX8_copy__54 : decode cX8_copy_ 54 = .ok (.getfield 9, 3) := by decide +kernel
theorem dX8_copy__57 : decode cX8_copy_ 57 = .ok (.iload_n 2, 1) := by decide +kernel
theorem dX8_copy__58 : decode cX8_copy_ 58 = .ok (.aaload, 1) := by decide +kernel
theorem dX8_copy__59 : decode cX8_copy_ 59 = .ok (.aload_n 0, 1) := by decide +kernel
theorem dX8_copy__60 : decode cX8_copy_ 60 = .ok (.getfield 9, 3) := by decide +kernel
theorem dX8_copy__63 : decode cX8_copy_ 63 = .ok (.iload_n 1, 1) := by decide +kernel
theorem dX8_copy__64 : decode cX8_copy_ 64 = .ok (.aaload, 1) := by decide +kernel
theorem dX8_copy__65 : decode cX8_copy_ 65 = .ok (.invokestatic 104, 3) := by decide +kernel
theorem dX8_copy__68 : decode cX8_copy_ 68 = .ok (.return_, 1) := by decide +kernel
set_option maxRecDepth 100000 in
set_option maxHeartbeats 4000000 in
theorem c_X8_copy_ (l : Launch) (D : va_G) (cy : Nat → ClassId) (N0 : Nat) (h : qH) (y ms mb mw od pt fi re rc rs so ot cn la ro : Nat) (gr cd ca mv ct fau cs ce rn : Int32) (ra rk rv : Nat → Nat) (S : Nat → qSlot) (p0 p1 : Int32) (hY : h y = some (.inr (8, [.ref ms, .ref mb, .ref mw, .int gr, .int cd, .int ca, .int mv, .ref od, .ref pt, .int ct, .int fau, .ref fi, .ref re, .int cs, .ref rc, .ref rs, .ref so, .ref ot, .ref cn, .ref la, .int ce, .ref ro, .int rn]))) (hM : qMR cy h ms mb mw ra rk rv S) : qC l D cy N0 yX8_copy_ cX8_copy_ 3 none 1 22 0 0 [.ref y, .int p0, .int p1] h (fun v h' => v = none ∧ h' y = some (.inr (8, [.ref ms, .ref mb, .ref mw, .int gr, .int (xs_copy S p0 p1).1, .int ca, .int mv, .ref od, .ref pt, .int ct, .int fau, .ref fi, .ref re, .int cs, .ref rc, .ref rs, .ref so, .ref ot, .ref cn, .ref la, .int ce, .ref ro, .int rn])) ∧ qMR cy h' ms mb mw ra rk rv ((xs_copy S p0 p1).2) ∧ qFm h h' y ra rk rv) (fun E h' => False) := by
  refine q_ofW (by decide) (by exact Nat.le_of_ble_eq_true rfl) ?_
  intro p e s m below meth c ls C hP hl
  have hx := C.1
  have hb := C.2.1
  have hS : va_S (qA N0) s.heap s.heap [] := va_S.rf
  have hl : lv_has ls 3 [(0, .ref y), (1, .int p0), (2, .int p1)] := hl
  have hle : qle h h := qle_rf
  have hY0 := hY
  obtain ⟨hms, hmb, hmw, hmd, hrs, kdw, smw, dpw, rww, nw, fw, gw, hRw⟩ := id hM
  subst hmw
  have fr : ∀ b o, h b = some o → b ≠ y → qOf (ra 28) (rk 28) (rv 28) b → h b = some o := fun b o hb _ _ => hb
  have faw := hRw.2.2.2.1
  have fkw := hRw.2.2.2.2.1
  have fvw := hRw.2.2.2.2.2
  unfold qRb at faw
  unfold qJr at fkw fvw
  refine lv_aload_n hx hb dX8_copy__0 rfl (lv_at hl 0 rfl) ?_
  refine lv_iload_n hx hb dX8_copy__1 rfl (lv_at hl 1 rfl) ?_
  refine q_callS (rest := [.ref y]) C (c_X8_isSlot l D cy N0 h p0) kX8_isSlot g1246 g1247 hP hS (by first | decide | omega) hl.1 rfl (by simp [q_catrf, q_cati, q_catl, q_cata, q_catn]) (by first | decide | omega) dX8_copy__2 (fun q ce E h' H1 locs1 hE => hE.elim) (fun v hh1 H locs hq hP hS => ?_)
  obtain ⟨rfl, ⟨rfl, sl9⟩ | ⟨rfl, sl9⟩⟩ := hq
  · obtain ⟨i, hi, rfl⟩ := sl9.of
    have ebi : bSl (nI i) = true := bSl_t sl9
    have eci : (nI i).toNatClampNeg = i := nI_clamp (by omega)
    refine lv_if_eq (tgt := 19) hx hb dX8_copy__5 (by decide) (fun c5 => ?_) (fun c5 => ?_)
    · replace c5 : 1 = 0 := (nI_eq (a := 1) (b := 0) (by omega) (by omega)).mp c5
      exfalso; omega
    · replace c5 : ¬ 1 = 0 := fun zq => c5 ((nI_eq (a := 1) (b := 0) (by omega) (by omega)).mpr zq)
      refine lv_iload_n hx hb dX8_copy__8 rfl (lv_at hl 2 rfl) ?_
      refine q_callS (rest := [.ref y]) C (c_X8_isSlot l D cy N0 h p1) kX8_isSlot g1246 g1247 hP hS (by first | decide | omega) hl.1 rfl (by simp [q_catrf, q_cati, q_catl, q_cata, q_catn]) (by first | decide | omega) dX8_copy__9 (fun q ce E h' H1 locs1 hE => hE.elim) (fun v hh2 H locs hq hP hS => ?_)
      obtain ⟨rfl, ⟨rfl, sl9⟩ | ⟨rfl, sl9⟩⟩ := hq
      · obtain ⟨j, hj, rfl⟩ := sl9.of
        have ebj : bSl (nI j) = true := bSl_t sl9
        have ecj : (nI j).toNatClampNeg = j := nI_clamp (by omega)
        refine lv_if_eq (tgt := 19) hx hb dX8_copy__12 (by decide) (fun c12 => ?_) (fun c12 => ?_)
        · replace c12 : 1 = 0 := (nI_eq (a := 1) (b := 0) (by omega) (by omega)).mp c12
          exfalso; omega
        · replace c12 : ¬ 1 = 0 := fun zq => c12 ((nI_eq (a := 1) (b := 0) (by omega) (by omega)).mpr zq)
          refine lv_iconst (v := nI 1) hx hb dX8_copy__15 (by decide) ?_
          refine lv_goto (tgt := 20) hx hb dX8_copy__16 (by decide) ?_
          refine lv_iconst (v := nI 1) hx hb dX8_copy__20 (by decide) ?_
          refine q_callV (rest := []) C (c_X8_good1 l D cy N0 h y ms mb (ra 28) od pt fi re rc rs so ot cn la ro gr cd ca mv ct fau cs ce rn (nI 1) hY) kX8_good g1249 g1251 rfl gp41 g4 hP hS hY (by first | decide | omega) hl.1 rfl (by decide) (by first | decide | omega) dX8_copy__21 (fun q ce E h' H1 locs1 hE => hE.elim) (fun v hh3 H locs hq hP hS => ?_)
          obtain ⟨rfl, rfl⟩ := hq
          replace hP : qP D N0 (qs h y (.inr (8, [.ref ms, .ref mb, .ref (ra 28), .int gr, .int 0, .int ca, .int mv, .ref od, .ref pt, .int ct, .int fau, .ref fi, .ref re, .int cs, .ref rc, .ref rs, .ref so, .ref ot, .ref cn, .ref la, .int ce, .ref ro, .int rn]))) H := hP
          obtain ⟨hv1, ehv1⟩ : ∃ z : qH, z = qs h y (.inr (8, [.ref ms, .ref mb, .ref (ra 28), .int gr, .int 0, .int ca, .int mv, .ref od, .ref pt, .int ct, .int fau, .ref fi, .ref re, .int cs, .ref rc, .ref rs, .ref so, .ref ot, .ref cn, .ref la, .int ce, .ref ro, .int rn])) := ⟨_, rfl⟩
          rw [← ehv1] at hP
          have khv1 : ∀ b o, b ≠ y → h b = some o → hv1 b = some o := by rw [ehv1]; exact fun b o nb hb => (qs_ne nb).trans hb
          replace hms := khv1 _ _ (fun q => by subst q; have := hms.symm.trans hY; first | cases this | simp at this) hms
          replace hmb := khv1 _ _ (fun q => by subst q; have := hmb.symm.trans hY; first | cases this | simp at this) hmb
          replace faw := khv1 _ _ (fun q => by have z9 := faw; rw [q] at z9; have := z9.symm.trans hY; first | cases this | simp at this) faw
          replace fkw := khv1 _ _ (fun q => by have z9 := fkw; rw [q] at z9; have := z9.symm.trans hY; first | cases this | simp at this) fkw
          replace fvw := khv1 _ _ (fun q => by have z9 := fvw; rw [q] at z9; have := z9.symm.trans hY; first | cases this | simp at this) fvw
          replace hY : hv1 y = some (.inr (8, [.ref ms, .ref mb, .ref (ra 28), .int gr, .int 0, .int ca, .int mv, .ref od, .ref pt, .int ct, .int fau, .ref fi, .ref re, .int cs, .ref rc, .ref rs, .ref so, .ref ot, .ref cn, .ref la, .int ce, .ref ro, .int rn])) := by rw [ehv1]; exact qs_self
          clear ehv1
          replace fr := fun b o hb n1 n2 => khv1 b o n1 (fr b o hb n1 n2)
          refine lv_if_eq (tgt := 52) hx hb dX8_copy__24 (by decide) (fun c24 => ?_) (fun c24 => ?_)
          · replace c24 : 1 = 0 := (nI_eq (a := 1) (b := 0) (by omega) (by omega)).mp c24
            exfalso; omega
          · replace c24 : ¬ 1 = 0 := fun zq => c24 ((nI_eq (a := 1) (b := 0) (by omega) (by omega)).mpr zq)
            refine lv_aload_n hx hb dX8_copy__27 rfl (lv_at hl 0 rfl) ?_
            refine lv_aload_n hx hb dX8_copy__28 rfl (lv_at hl 0 rfl) ?_
            refine q_get C hP hY rfl inX8 0 (by decide) g1167 rfl dX8_copy__29 ?_
            refine lv_iload_n hx hb dX8_copy__32 rfl (lv_at hl 2 rfl) ?_
            refine q_aaldR C hP hms rfl (by omega) (by omega) rfl dX8_copy__33 ?_
            obtain ⟨nj, rwj, Fj, Gj, hRj, hnj, hLj, hKj⟩ := hrs j (by omega)
            have apj := hRj.apart hRw (hmd.two (i := j) (j := 28) (by omega) (by omega) (by omega))
            replace hRj := hRj.keep2 (fun b o hb ho => fr b o ho (hRj.ney hY0 hb) (hb.elim (fun q => q ▸ apj.1) (fun hb => hb.elim (fun q => q ▸ apj.2.1) (fun q => q ▸ apj.2.2))))
            have faj := hRj.2.2.2.1
            have fkj := hRj.2.2.2.2.1
            have fvj := hRj.2.2.2.2.2
            unfold qRb at faj
            unfold qJr at fkj fvj
            refine q_get C hP faj rfl inX7 2 (by decide) g1142 rfl dX8_copy__34 ?_
            refine lv_if_lt (tgt := 44) hx hb dX8_copy__37 (by decide) (fun c37 => ?_) (fun c37 => ?_)
            · refine lv_iconst (v := nI 0) hx hb dX8_copy__44 (by decide) ?_
              refine lv_iconst (v := nI 2) hx hb dX8_copy__45 (by decide) ?_
              refine q_callV (rest := []) C (c_X8_good0 l D cy N0 hv1 y ms mb (ra 28) od pt fi re rc rs so ot cn la ro gr 0 ca mv ct fau cs ce rn (nI 2) hY) kX8_good g1249 g1251 rfl gp41 g4 hP hS hY (by first | decide | omega) hl.1 rfl (by decide) (by first | decide | omega) dX8_copy__46 (fun q ce E h' H1 locs1 hE => hE.elim) (fun v hh4 H locs hq hP hS => ?_)
              obtain ⟨rfl, rfl⟩ := hq
              replace hP : qP D N0 (qs hv1 y (.inr (8, [.ref ms, .ref mb, .ref (ra 28), .int gr, .int (nI 2), .int ca, .int mv, .ref od, .ref pt, .int ct, .int fau, .ref fi, .ref re, .int cs, .ref rc, .ref rs, .ref so, .ref ot, .ref cn, .ref la, .int ce, .ref ro, .int rn]))) H := hP
              obtain ⟨hv2, ehv2⟩ : ∃ z : qH, z = qs hv1 y (.inr (8, [.ref ms, .ref mb, .ref (ra 28), .int gr, .int (nI 2), .int ca, .int mv, .ref od, .ref pt, .int ct, .int fau, .ref fi, .ref re, .int cs, .ref rc, .ref rs, .ref so, .ref ot, .ref cn, .ref la, .int ce, .ref ro, .int rn])) := ⟨_, rfl⟩
              rw [← ehv2] at hP
              have khv2 : ∀ b o, b ≠ y → hv1 b = some o → hv2 b = some o := by rw [ehv2]; exact fun b o nb hb => (qs_ne nb).trans hb
              replace hms := khv2 _ _ (fun q => by subst q; have := hms.symm.trans hY; first | cases this | simp at this) hms
              replace hmb := khv2 _ _ (fun q => by subst q; have := hmb.symm.trans hY; first | cases this | simp at this) hmb
              replace faw := khv2 _ _ (fun q => by have z9 := faw; rw [q] at z9; have := z9.symm.trans hY; first | cases this | simp at this) faw
              replace fkw := khv2 _ _ (fun q => by have z9 := fkw; rw [q] at z9; have := z9.symm.trans hY; first | cases this | simp at this) fkw
              replace fvw := khv2 _ _ (fun q => by have z9 := fvw; rw [q] at z9; have := z9.symm.trans hY; first | cases this | simp at this) fvw
              replace faj := khv2 _ _ (fun q => by have z9 := faj; rw [q] at z9; have := z9.symm.trans hY; first | cases this | simp at this) faj
              replace fkj := khv2 _ _ (fun q => by have z9 := fkj; rw [q] at z9; have := z9.symm.trans hY; first | cases this | simp at this) fkj
              replace fvj := khv2 _ _ (fun q => by have z9 := fvj; rw [q] at z9; have := z9.symm.trans hY; first | cases this | simp at this) fvj
              replace hY : hv2 y = some (.inr (8, [.ref ms, .ref mb, .ref (ra 28), .int gr, .int (nI 2), .int ca, .int mv, .ref od, .ref pt, .int ct, .int fau, .ref fi, .ref re, .int cs, .ref rc, .ref rs, .ref so, .ref ot, .ref cn, .ref la, .int ce, .ref ro, .int rn])) := by rw [ehv2]; exact qs_self
              clear ehv2
              replace fr := fun b o hb n1 n2 => khv2 b o n1 (fr b o hb n1 n2)
              refine lv_if_ne (tgt := 53) hx hb dX8_copy__49 (by decide) (fun c49 => ?_) (fun c49 => ?_)
              · replace c49 : ¬ 0 = 0 := fun zq => c49 ((nI_eq (a := 0) (b := 0) (by omega) (by omega)).mpr zq)
                exfalso; omega
              · replace c49 : 0 = 0 := (nI_eq (a := 0) (b := 0) (by omega) (by omega)).mp c49
                have ex : xs_copy S (nI i) (nI j) = (2, S) := by unfold xs_copy; rw [if_neg (by simp [ebi, ebj]), ecj, if_pos c37]
                obtain ⟨m9, f9⟩ := hM.fin0 hY0 (h' := hv2) ⟨hRw.1, hRw.2.1, hRw.2.2.1, faw, fkw, fvw⟩ fr
                exact q_vret C hP hS ⟨rfl, by rw [ex]; exact hY, by rw [ex]; exact m9, f9⟩ (by omega) dX8_copy__52
            · refine lv_iconst (v := nI 1) hx hb dX8_copy__40 (by decide) ?_
              refine lv_goto (tgt := 45) hx hb dX8_copy__41 (by decide) ?_
              refine lv_iconst (v := nI 2) hx hb dX8_copy__45 (by decide) ?_
              refine q_callV (rest := []) C (c_X8_good1 l D cy N0 hv1 y ms mb (ra 28) od pt fi re rc rs so ot cn la ro gr 0 ca mv ct fau cs ce rn (nI 2) hY) kX8_good g1249 g1251 rfl gp41 g4 hP hS hY (by first | decide | omega) hl.1 rfl (by decide) (by first | decide | omega) dX8_copy__46 (fun q ce E h' H1 locs1 hE => hE.elim) (fun v hh5 H locs hq hP hS => ?_)
              obtain ⟨rfl, rfl⟩ := hq
              replace hP : qP D N0 (qs hv1 y (.inr (8, [.ref ms, .ref mb, .ref (ra 28), .int gr, .int 0, .int ca, .int mv, .ref od, .ref pt, .int ct, .int fau, .ref fi, .ref re, .int cs, .ref rc, .ref rs, .ref so, .ref ot, .ref cn, .ref la, .int ce, .ref ro, .int rn]))) H := hP
              obtain ⟨hv3, ehv3⟩ : ∃ z : qH, z = qs hv1 y (.inr (8, [.ref ms, .ref mb, .ref (ra 28), .int gr, .int 0, .int ca, .int mv, .ref od, .ref pt, .int ct, .int fau, .ref fi, .ref re, .int cs, .ref rc, .ref rs, .ref so, .ref ot, .ref cn, .ref la, .int ce, .ref ro, .int rn])) := ⟨_, rfl⟩
              rw [← ehv3] at hP
              have khv3 : ∀ b o, b ≠ y → hv1 b = some o → hv3 b = some o := by rw [ehv3]; exact fun b o nb hb => (qs_ne nb).trans hb
              replace hms := khv3 _ _ (fun q => by subst q; have := hms.symm.trans hY; first | cases this | simp at this) hms
              replace hmb := khv3 _ _ (fun q => by subst q; have := hmb.symm.trans hY; first | cases this | simp at this) hmb
              replace faw := khv3 _ _ (fun q => by have z9 := faw; rw [q] at z9; have := z9.symm.trans hY; first | cases this | simp at this) faw
              replace fkw := khv3 _ _ (fun q => by have z9 := fkw; rw [q] at z9; have := z9.symm.trans hY; first | cases this | simp at this) fkw
              replace fvw := khv3 _ _ (fun q => by have z9 := fvw; rw [q] at z9; have := z9.symm.trans hY; first | cases this | simp at this) fvw
              replace faj := khv3 _ _ (fun q => by have z9 := faj; rw [q] at z9; have := z9.symm.trans hY; first | cases this | simp at this) faj
              replace fkj := khv3 _ _ (fun q => by have z9 := fkj; rw [q] at z9; have := z9.symm.trans hY; first | cases this | simp at this) fkj
              replace fvj := khv3 _ _ (fun q => by have z9 := fvj; rw [q] at z9; have := z9.symm.trans hY; first | cases this | simp at this) fvj
              replace hY : hv3 y = some (.inr (8, [.ref ms, .ref mb, .ref (ra 28), .int gr, .int 0, .int ca, .int mv, .ref od, .ref pt, .int ct, .int fau, .ref fi, .ref re, .int cs, .ref rc, .ref rs, .ref so, .ref ot, .ref cn, .ref la, .int ce, .ref ro, .int rn])) := by rw [ehv3]; exact qs_self
              clear ehv3
              replace fr := fun b o hb n1 n2 => khv3 b o n1 (fr b o hb n1 n2)
              refine lv_if_ne (tgt := 53) hx hb dX8_copy__49 (by decide) (fun c49 => ?_) (fun c49 => ?_)
              · replace c49 : ¬ 1 = 0 := fun zq => c49 ((nI_eq (a := 1) (b := 0) (by omega) (by omega)).mpr zq)
                by_cases eij : i = j
                · subst eij
                  obtain ⟨ni, rwi, Fi, Gi, hRi, hni, hLi, hKi⟩ := hrs i (by omega)
                  have api := hRi.apart hRw (hmd.two (i := i) (j := 28) (by omega) (by omega) (by omega))
                  replace hRi := hRi.keep2 (fun b o hb ho => fr b o ho (hRi.ney hY0 hb) (hb.elim (fun q => q ▸ api.1) (fun hb => hb.elim (fun q => q ▸ api.2.1) (fun q => q ▸ api.2.2))))
                  have fai := hRi.2.2.2.1
                  have fki := hRi.2.2.2.2.1
                  have fvi := hRi.2.2.2.2.2
                  unfold qRb at fai
                  unfold qJr at fki fvi
                  replace hms := hms
                  refine lv_aload_n hx hb dX8_copy__53 rfl (lv_at hl 0 rfl) ?_
                  refine q_get C hP hY rfl inX8 0 (by decide) g1167 rfl dX8_copy__54 ?_
                  refine lv_iload_n hx hb dX8_copy__57 rfl (lv_at hl 2 rfl) ?_
                  refine q_aaldR C hP hms rfl (by omega) (by omega) rfl dX8_copy__58 ?_
                  refine lv_aload_n hx hb dX8_copy__59 rfl (lv_at hl 0 rfl) ?_
                  refine q_get C hP hY rfl inX8 0 (by decide) g1167 rfl dX8_copy__60 ?_
                  refine lv_iload_n hx hb dX8_copy__63 rfl (lv_at hl 1 rfl) ?_
                  refine q_aaldR C hP hms rfl (by omega) (by omega) rfl dX8_copy__64 ?_
                  refine q_callS (rest := []) C (c_X8_copy_self l D cy N0 hv3 (ra i) (rk i) (rv i) ((S i).1) (nI (S i).2.2.1) (nI (S i).2.2.2) rwi ni Fi Gi ⟨hRi.1, hRi.2.1, hRi.2.2.1, fai, fki, fvi⟩ (by omega)) kX8_copy g1257 g1258 hP hS (by first | decide | omega) hl.1 rfl (by decide) (by first | decide | omega) dX8_copy__65 (fun q ce E h' H1 locs1 hE => hE.elim) (fun v hh6 H locs hq hP hS => ?_)
                  obtain ⟨rfl, rfl⟩ := hq
                  have ex : xs_copy S (nI i) (nI i) = (0, S) := by unfold xs_copy; rw [if_neg (by simp [ebi]), eci, if_neg c37]; congr 1; funext q; unfold qU; split <;> first | rfl | (rename_i z; rw [z])
                  obtain ⟨m9, f9⟩ := hM.fin0 hY0 (h' := hv3) ⟨hRw.1, hRw.2.1, hRw.2.2.1, faw, fkw, fvw⟩ fr
                  exact q_vret C hP hS ⟨rfl, by rw [ex]; exact hY, by rw [ex]; exact m9, f9⟩ (by omega) dX8_copy__68
                · skip
                  obtain ⟨ni, rwi, Fi, Gi, hRi, hni, hLi, hKi⟩ := hrs i (by omega)
                  have api := hRi.apart hRw (hmd.two (i := i) (j := 28) (by omega) (by omega) (by omega))
                  replace hRi := hRi.keep2 (fun b o hb ho => fr b o ho (hRi.ney hY0 hb) (hb.elim (fun q => q ▸ api.1) (fun hb => hb.elim (fun q => q ▸ api.2.1) (fun q => q ▸ api.2.2))))
                  have fai := hRi.2.2.2.1
                  have fki := hRi.2.2.2.2.1
                  have fvi := hRi.2.2.2.2.2
                  unfold qRb at fai
                  unfold qJr at fki fvi
                  have aji := qRw.apart (⟨hRj.1, hRj.2.1, hRj.2.2.1, faj, fkj, fvj⟩ : qRw cy hv3 (ra j) (rk j) (rv j) ((S j).1) (nI nj) (nI (S j).2.2.1) (nI (S j).2.2.2) rwj Fj Gj) hRi (hmd.two (by omega) (by omega) (fun q => eij q.symm))
                  have awi : qOf (ra i) (rk i) (rv i) (ra 28) ∧ qOf (ra i) (rk i) (rv i) (rk 28) ∧ qOf (ra i) (rk i) (rv i) (rv 28) := ⟨⟨Ne.symm api.1.1, Ne.symm api.2.1.1, Ne.symm api.2.2.1⟩, ⟨Ne.symm api.1.2.1, Ne.symm api.2.1.2.1, Ne.symm api.2.2.2.1⟩, ⟨Ne.symm api.1.2.2, Ne.symm api.2.1.2.2, Ne.symm api.2.2.2.2⟩⟩
                  replace fr := fun b o hb n1 n2 (n3 : qOf (ra i) (rk i) (rv i) b) => fr b o hb n1 n2
                  refine lv_aload_n hx hb dX8_copy__53 rfl (lv_at hl 0 rfl) ?_
                  refine q_get C hP hY rfl inX8 0 (by decide) g1167 rfl dX8_copy__54 ?_
                  refine lv_iload_n hx hb dX8_copy__57 rfl (lv_at hl 2 rfl) ?_
                  refine q_aaldR C hP hms rfl (by omega) (by omega) rfl dX8_copy__58 ?_
                  refine lv_aload_n hx hb dX8_copy__59 rfl (lv_at hl 0 rfl) ?_
                  refine q_get C hP hY rfl inX8 0 (by decide) g1167 rfl dX8_copy__60 ?_
                  refine lv_iload_n hx hb dX8_copy__63 rfl (lv_at hl 1 rfl) ?_
                  refine q_aaldR C hP hms rfl (by omega) (by omega) rfl dX8_copy__64 ?_
                  refine q_callS (rest := []) C (c_X8_copy l D cy N0 hv3 (ra j) (rk j) (rv j) (S j).1 (nI (S j).2.2.1) (nI (S j).2.2.2) rwj nj Fj Gj (ra i) (rk i) (rv i) (S i).1 (nI (S i).2.2.1) (nI (S i).2.2.2) rwi ni Fi Gi ⟨hRj.1, hRj.2.1, hRj.2.2.1, faj, fkj, fvj⟩ ⟨hRi.1, hRi.2.1, hRi.2.2.1, fai, fki, fvi⟩ aji (by omega)) kX8_copy g1257 g1258 hP hS (by first | decide | omega) hl.1 rfl (by decide) (by first | decide | omega) dX8_copy__65 (fun q ce E h' H1 locs1 hE => hE.elim) (fun v hh7 H locs hq hP hS => ?_)
                  obtain ⟨rfl, rfl⟩ := hq
                  obtain ⟨hv4, ehv4⟩ : ∃ z : qH, z = qRh cy hv3 (ra i) (rk i) (rv i) ((S j).1) (nI nj) (nI (S j).2.2.1) (nI (S j).2.2.2) rwj (qCp Fj Fi nj) (qCp Gj Gi nj) := ⟨_, rfl⟩
                  rw [← ehv4] at hP
                  have r9 : qRw cy hv4 (ra i) (rk i) (rv i) ((S j).1) (nI nj) (nI (S j).2.2.1) (nI (S j).2.2.2) rwj (qCp Fj Fi nj) (qCp Gj Gi nj) := by rw [ehv4]; exact qRw.new (cy := cy) (h := hv3) (kd := (S i).1) (n := (nI ni)) (sm := (nI (S i).2.2.1)) (dp := (nI (S i).2.2.2)) (rw := rwi) (f := Fi) (g := Gi) ⟨hRi.1, hRi.2.1, hRi.2.2.1, fai, fki, fvi⟩
                  have khv4 : ∀ b o, qOf (ra i) (rk i) (rv i) b → hv3 b = some o → hv4 b = some o := by rw [ehv4]; exact fun b o q hb => (qRh_o q.1 q.2.1 q.2.2).trans hb
                  replace hY := khv4 _ _ ⟨fun q => by rw [q] at hY; have := fai.symm.trans hY; first | cases this | simp at this, fun q => by rw [q] at hY; have := fki.symm.trans hY; first | cases this | simp at this, fun q => by rw [q] at hY; have := fvi.symm.trans hY; first | cases this | simp at this⟩ hY
                  replace hms := khv4 _ _ ⟨fun q => by rw [q] at hms; have := fai.symm.trans hms; first | cases this | simp at this, fun q => by rw [q] at hms; have := fki.symm.trans hms; first | cases this | simp at this, fun q => by rw [q] at hms; have := fvi.symm.trans hms; first | cases this | simp at this⟩ hms
                  replace hmb := khv4 _ _ ⟨fun q => by rw [q] at hmb; have := fai.symm.trans hmb; first | cases this | simp at this, fun q => by rw [q] at hmb; have := fki.symm.trans hmb; first | cases this | simp at this, fun q => by rw [q] at hmb; have := fvi.symm.trans hmb; first | cases this | simp at this⟩ hmb
                  replace faw := khv4 _ _ awi.1 faw
                  replace fkw := khv4 _ _ awi.2.1 fkw
                  replace fvw := khv4 _ _ awi.2.2 fvw
                  replace faj := khv4 _ _ aji.1 faj
                  replace fkj := khv4 _ _ aji.2.1 fkj
                  replace fvj := khv4 _ _ aji.2.2 fvj
                  replace fr := fun b o hb n1 n2 n3 => khv4 b o n3 (fr b o hb n1 n2 n3)
                  clear fai fki fvi
                  have fai := r9.2.2.2.1
                  have fki := r9.2.2.2.2.1
                  have fvi := r9.2.2.2.2.2
                  unfold qRb at fai
                  unfold qJr at fki fvi
                  clear r9 ehv4
                  have ex : xs_copy S (nI i) (nI j) = (0, qU S i (S j)) := by unfold xs_copy; rw [if_neg (by simp [ebi, ebj]), ecj, if_neg c37, eci]
                  obtain ⟨m9, f9⟩ := hM.fin hY0 (i := i) (by omega) (s := (S j)) ⟨nj, _, _, _, ⟨hRi.1, hRi.2.1, hRi.2.2.1, fai, fki, fvi⟩, by omega, by rw [qLs_cp]; exact hLj, by first | exact Or.inl rfl | exact xRo.mv (by omega) hKj | exact xRo.bl (by omega) hKbb⟩ ⟨hRw.1, hRw.2.1, hRw.2.2.1, faw, fkw, fvw⟩ fr
                  exact q_vret C hP hS ⟨rfl, by rw [ex]; exact hY, by rw [ex]; exact m9, f9⟩ (by omega) dX8_copy__68
              · replace c49 : 1 = 0 := (nI_eq (a := 1) (b := 0) (by omega) (by omega)).mp c49
                exfalso; omega
      · have ebj : bSl p1 = false := bSl_f sl9
        refine lv_if_eq (tgt := 19) hx hb dX8_copy__12 (by decide) (fun c12 => ?_) (fun c12 => ?_)
        · replace c12 : 0 = 0 := (nI_eq (a := 0) (b := 0) (by omega) (by omega)).mp c12
          refine lv_iconst (v := nI 0) hx hb dX8_copy__19 (by decide) ?_
          refine lv_iconst (v := nI 1) hx hb dX8_copy__20 (by decide) ?_
          refine q_callV (rest := []) C (c_X8_good0 l D cy N0 h y ms mb (ra 28) od pt fi re rc rs so ot cn la ro gr cd ca mv ct fau cs ce rn (nI 1) hY) kX8_good g1249 g1251 rfl gp41 g4 hP hS hY (by first | decide | omega) hl.1 rfl (by decide) (by first | decide | omega) dX8_copy__21 (fun q ce E h' H1 locs1 hE => hE.elim) (fun v hh8 H locs hq hP hS => ?_)
          obtain ⟨rfl, rfl⟩ := hq
          replace hP : qP D N0 (qs h y (.inr (8, [.ref ms, .ref mb, .ref (ra 28), .int gr, .int (nI 1), .int ca, .int mv, .ref od, .ref pt, .int ct, .int fau, .ref fi, .ref re, .int cs, .ref rc, .ref rs, .ref so, .ref ot, .ref cn, .ref la, .int ce, .ref ro, .int rn]))) H := hP
          obtain ⟨hv5, ehv5⟩ : ∃ z : qH, z = qs h y (.inr (8, [.ref ms, .ref mb, .ref (ra 28), .int gr, .int (nI 1), .int ca, .int mv, .ref od, .ref pt, .int ct, .int fau, .ref fi, .ref re, .int cs, .ref rc, .ref rs, .ref so, .ref ot, .ref cn, .ref la, .int ce, .ref ro, .int rn])) := ⟨_, rfl⟩
          rw [← ehv5] at hP
          have khv5 : ∀ b o, b ≠ y → h b = some o → hv5 b = some o := by rw [ehv5]; exact fun b o nb hb => (qs_ne nb).trans hb
          replace hms := khv5 _ _ (fun q => by subst q; have := hms.symm.trans hY; first | cases this | simp at this) hms
          replace hmb := khv5 _ _ (fun q => by subst q; have := hmb.symm.trans hY; first | cases this | simp at this) hmb
          replace faw := khv5 _ _ (fun q => by have z9 := faw; rw [q] at z9; have := z9.symm.trans hY; first | cases this | simp at this) faw
          replace fkw := khv5 _ _ (fun q => by have z9 := fkw; rw [q] at z9; have := z9.symm.trans hY; first | cases this | simp at this) fkw
          replace fvw := khv5 _ _ (fun q => by have z9 := fvw; rw [q] at z9; have := z9.symm.trans hY; first | cases this | simp at this) fvw
          replace hY : hv5 y = some (.inr (8, [.ref ms, .ref mb, .ref (ra 28), .int gr, .int (nI 1), .int ca, .int mv, .ref od, .ref pt, .int ct, .int fau, .ref fi, .ref re, .int cs, .ref rc, .ref rs, .ref so, .ref ot, .ref cn, .ref la, .int ce, .ref ro, .int rn])) := by rw [ehv5]; exact qs_self
          clear ehv5
          replace fr := fun b o hb n1 n2 => khv5 b o n1 (fr b o hb n1 n2)
          refine lv_if_eq (tgt := 52) hx hb dX8_copy__24 (by decide) (fun c24 => ?_) (fun c24 => ?_)
          · replace c24 : 0 = 0 := (nI_eq (a := 0) (b := 0) (by omega) (by omega)).mp c24
            have ex : xs_copy S (nI i) p1 = (1, S) := by unfold xs_copy; rw [if_pos (by simp [ebi, ebj])]
            obtain ⟨m9, f9⟩ := hM.fin0 hY0 (h' := hv5) ⟨hRw.1, hRw.2.1, hRw.2.2.1, faw, fkw, fvw⟩ fr
            exact q_vret C hP hS ⟨rfl, by rw [ex]; exact hY, by rw [ex]; exact m9, f9⟩ (by omega) dX8_copy__52
          · replace c24 : ¬ 0 = 0 := fun zq => c24 ((nI_eq (a := 0) (b := 0) (by omega) (by omega)).mpr zq)
            exfalso; omega
        · replace c12 : ¬ 0 = 0 := fun zq => c12 ((nI_eq (a := 0) (b := 0) (by omega) (by omega)).mpr zq)
          exfalso; omega
  · have ebi : bSl p0 = false := bSl_f sl9
    refine lv_if_eq (tgt := 19) hx hb dX8_copy__5 (by decide) (fun c5 => ?_) (fun c5 => ?_)
    · replace c5 : 0 = 0 := (nI_eq (a := 0) (b := 0) (by omega) (by omega)).mp c5
      refine lv_iconst (v := nI 0) hx hb dX8_copy__19 (by decide) ?_
      refine lv_iconst (v := nI 1) hx hb dX8_copy__20 (by decide) ?_
      refine q_callV (rest := []) C (c_X8_good0 l D cy N0 h y ms mb (ra 28) od pt fi re rc rs so ot cn la ro gr cd ca mv ct fau cs ce rn (nI 1) hY) kX8_good g1249 g1251 rfl gp41 g4 hP hS hY (by first | decide | omega) hl.1 rfl (by decide) (by first | decide | omega) dX8_copy__21 (fun q ce E h' H1 locs1 hE => hE.elim) (fun v hh9 H locs hq hP hS => ?_)
      obtain ⟨rfl, rfl⟩ := hq
      replace hP : qP D N0 (qs h y (.inr (8, [.ref ms, .ref mb, .ref (ra 28), .int gr, .int (nI 1), .int ca, .int mv, .ref od, .ref pt, .int ct, .int fau, .ref fi, .ref re, .int cs, .ref rc, .ref rs, .ref so, .ref ot, .ref cn, .ref la, .int ce, .ref ro, .int rn]))) H := hP
      obtain ⟨hv6, ehv6⟩ : ∃ z : qH, z = qs h y (.inr (8, [.ref ms, .ref mb, .ref (ra 28), .int gr, .int (nI 1), .int ca, .int mv, .ref od, .ref pt, .int ct, .int fau, .ref fi, .ref re, .int cs, .ref rc, .ref rs, .ref so, .ref ot, .ref cn, .ref la, .int ce, .ref ro, .int rn])) := ⟨_, rfl⟩
      rw [← ehv6] at hP
      have khv6 : ∀ b o, b ≠ y → h b = some o → hv6 b = some o := by rw [ehv6]; exact fun b o nb hb => (qs_ne nb).trans hb
      replace hms := khv6 _ _ (fun q => by subst q; have := hms.symm.trans hY; first | cases this | simp at this) hms
      replace hmb := khv6 _ _ (fun q => by subst q; have := hmb.symm.trans hY; first | cases this | simp at this) hmb
      replace faw := khv6 _ _ (fun q => by have z9 := faw; rw [q] at z9; have := z9.symm.trans hY; first | cases this | simp at this) faw
      replace fkw := khv6 _ _ (fun q => by have z9 := fkw; rw [q] at z9; have := z9.symm.trans hY; first | cases this | simp at this) fkw
      replace fvw := khv6 _ _ (fun q => by have z9 := fvw; rw [q] at z9; have := z9.symm.trans hY; first | cases this | simp at this) fvw
      replace hY : hv6 y = some (.inr (8, [.ref ms, .ref mb, .ref (ra 28), .int gr, .int (nI 1), .int ca, .int mv, .ref od, .ref pt, .int ct, .int fau, .ref fi, .ref re, .int cs, .ref rc, .ref rs, .ref so, .ref ot, .ref cn, .ref la, .int ce, .ref ro, .int rn])) := by rw [ehv6]; exact qs_self
      clear ehv6
      replace fr := fun b o hb n1 n2 => khv6 b o n1 (fr b o hb n1 n2)
      refine lv_if_eq (tgt := 52) hx hb dX8_copy__24 (by decide) (fun c24 => ?_) (fun c24 => ?_)
      · replace c24 : 0 = 0 := (nI_eq (a := 0) (b := 0) (by omega) (by omega)).mp c24
        have ex : xs_copy S p0 p1 = (1, S) := by unfold xs_copy; rw [if_pos (by simp [ebi])]
        obtain ⟨m9, f9⟩ := hM.fin0 hY0 (h' := hv6) ⟨hRw.1, hRw.2.1, hRw.2.2.1, faw, fkw, fvw⟩ fr
        exact q_vret C hP hS ⟨rfl, by rw [ex]; exact hY, by rw [ex]; exact m9, f9⟩ (by omega) dX8_copy__52
      · replace c24 : ¬ 0 = 0 := fun zq => c24 ((nI_eq (a := 0) (b := 0) (by omega) (by omega)).mpr zq)
        exfalso; omega
    · replace c5 : ¬ 0 = 0 := fun zq => c5 ((nI_eq (a := 0) (b := 0) (by omega) (by omega)).mpr zq)
      exfalso; omega
