theorem dX8_look_25 : decode cX8_look 25 = .ok (.iconst 1, 1) := by decide +kernel
theorem dX8_look_26 : decode cX8_look 26 = .ok (.goto 4, 3) := by decide +kernel
theorem dX8_look_39 : decode cX8_look 39 = .ok (.aload_n 0, 1) := by decide +kernel
theorem dX8_look_40 : decode cX8_look 40 = .ok (.getfield 15, 3) := by decide +kernel
theorem dX8_look_43 : decode cX8_look 43 = .ok (.iload_n 1, 1) := by decide +kernel
theorem dX8_look_44 : decode cX8_look 44 = .ok (.aaload, 1) := by decide +kernel
theorem dX8_look_45 : decode cX8_look 45 = .ok (.astore 4, 2) := by decide +kernel
theorem dX8_look_47 : decode cX8_look 47 = .ok (.aload 4, 2) := by decide +kernel
theorem dX8_look_49 : decode cX8_look 49 = .ok (.getfield 75, 3) := by decide +kernel
theorem dX8_look_52 : decode cX8_look 52 = .ok (.ifCond .ne 29, 3) := by decide +kernel
theorem dX8_look_55 : decode cX8_look 55 = .ok (.lload_n 2, 1) := by decide +kernel
theorem dX8_look_56 : decode cX8_look 56 = .ok (.lconst 0, 1) := by decide +kernel
theorem dX8_look_57 : decode cX8_look 57 = .ok (.lcmp, 1) := by decide +kernel
theorem dX8_look_58 : decode cX8_look 58 = .ok (.ifCond .lt 19, 3) := by decide +kernel
theorem dX8_look_61 : decode cX8_look 61 = .ok (.lload_n 2, 1) := by decide +kernel
theorem dX8_look_62 : decode cX8_look 62 = .ok (.aload 4, 2) := by decide +kernel
theorem dX8_look_64 : decode cX8_look 64 = .ok (.getfield 78, 3) := by decide +kernel
theorem dX8_look_67 : decode cX8_look 67 = .ok (.i2l, 1) := by decide +kernel
theorem dX8_look_68 : decode cX8_look 68 = .ok (.lcmp, 1) := by decide +kernel
theorem dX8_look_69 : decode cX8_look 69 = .ok (.ifCond .ge 8, 3) := by decide +kernel
theorem dX8_look_72 : decode cX8_look 72 = .ok (.lload_n 2, 1) := by decide +kernel
theorem dX8_look_73 : decode cX8_look 73 = .ok (.l2i, 1) := by decide +kernel
theorem dX8_look_74 : decode cX8_look 74 = .ok (.goto 13, 3) := by decide +kernel
theorem dX8_look_77 : decode cX8_look 77 = .ok (.iconst (-1), 1) := by decide +kernel
theorem dX8_look_78 : decode cX8_look 78 = .ok (.goto 9, 3) := by decide +kernel
theorem dX8_look_81 : decode cX8_look 81 = .ok (.aload 4, 2) := by decide +kernel
theorem dX8_look_83 : decode cX8_look 83 = .ok (.lload_n 2, 1) := by decide +kernel
theorem dX8_look_84 : decode cX8_look 84 = .ok (.invokestatic 112, 3) := by decide +kernel
theorem dX8_look_87 : decode cX8_look 87 = .ok (.istore 5, 2) := by decide +kernel
theorem dX8_look_89 : decode cX8_look 89 = .ok (.aload_n 0, 1) := by decide +kernel
theorem dX8_look_90 : decode cX8_look 90 = .ok (.iload 5, 2) := by decide +kernel
theorem dX8_look_92 : decode cX8_look 92 = .ok (.ifCond .lt 7, 3) := by decide +kernel
theorem dX8_look_95 : decode cX8_look 95 = .ok (.iconst 1, 1) := by decide +kernel
theorem dX8_look_96 : decode cX8_look 96 = .ok (.goto 4, 3) := by decide +kernel
theorem dX8_look_99 : decode cX8_look 99 = .ok (.iconst 0, 1) := by decide +kernel
theorem dX8_look_100 : decode cX8_look 100 = .ok (.iconst 3, 1) := by decide +kernel
theorem dX8_look_101 : decode cX8_look 101 = .ok (.invokevirtual 100, 3) := by decide +kernel
theorem dX8_look_104 : decode cX8_look 104 = .ok (.ifCond .ne 5, 3) := by decide +kernel
theorem dX8_look_107 : decode cX8_look 107 = .ok (.lconst 0, 1) := by decide +kernel
theorem dX8_look_108 : decode cX8_look 108 = .ok (.lreturn, 1) := by decide +kernel
theorem dX8_look_109 : decode cX8_look 109 = .ok (.aload 4, 2) := by decide +kernel
theorem dX8_look_111 : decode cX8_look 111 = .ok (.getfield 75, 3) := by decide +kernel
theorem dX8_look_114 : decode cX8_look 114 = .ok (.ifCond .ne 14, 3) := by decide +kernel
theorem dX8_look_117 : decode cX8_look 117 = .ok (.aload 4, 2) := by decide +kernel
theorem dX8_look_119 : decode cX8_look 119 = .ok (.getfield 90, 3) := by decide +kernel
theorem dX8_look_122 : decode cX8_look 122 = .ok (.iload 5, 2) := by decide +kernel
theorem dX8_look_124 : decode cX8_look 124 = .ok (.laload, 1) := by decide +kernel
theorem dX8_look_125 : decode cX8_look 125 = .ok (.goto 24, 3) := by decide +kernel
theorem dX8_look_128 : decode cX8_look 128 = .ok (.aload 4, 2) := by decide +kernel
theorem dX8_look_130 : decode cX8_look 130 = .ok (.getfield 75, 3) := by decide +kernel
theorem dX8_look_133 : decode cX8_look 133 = .ok (.iconst 1, 1) := by decide +kernel
theorem dX8_look_134 : decode cX8_look 134 = .ok (.if_icmp .ne 14, 3) := by decide +kernel
theorem dX8_look_137 : decode cX8_look 137 = .ok (.aload 4, 2) := by decide +kernel
theorem dX8_look_139 : decode cX8_look 139 = .ok (.getfield 93, 3) := by decide +kernel
theorem dX8_look_142 : decode cX8_look 142 = .ok (.iload 5, 2) := by decide +kernel
theorem dX8_look_144 : decode cX8_look 144 = .ok (.laload, 1) := by decide +kernel
theorem dX8_look_145 : decode cX8_look 145 = .ok (.goto 4, 3) := by decide +kernel
theorem dX8_look_148 : decode cX8_look 148 = .ok (.lconst 1, 1) := by decide +kernel
theorem dX8_look_149 : decode cX8_look 149 = .ok (.lreturn, 1) := by decide +kernel
set_option maxRecDepth 100000 in
set_option maxHeartbeats 4000000 in
theorem c_X8_look (l : Launch) (D : va_G) (cy : Nat → ClassId) (N0 : Nat) (h : qH) (y ms mb mw od pt fi re rc rs so ot cn la ro : Nat) (gr cd ca mv ct fau cs ce rn : Int32) (ra rk rv : Nat → Nat) (S : Nat → qSlot) (p0 : Int32) (p1 : Int64) (hY : h y = some (.inr (8, [.ref ms, .ref mb, .ref mw, .int gr, .int cd, .int ca, .int mv, .ref od, .ref pt, .int ct, .int fau, .ref fi, .ref re, .int cs, .ref rc, .ref rs, .ref so, .ref ot, .ref cn, .ref la, .int ce, .ref ro, .int rn]))) (hM : qMR cy h ms mb mw ra rk rv S) : qC l D cy N0 yX8_look cX8_look 6 (some .long) 1 24 0 0 [.ref y, .int p0, .long p1] h (fun v h' => v = some (.long (xs_look S p0 p1).2) ∧ h' y = some (.inr (8, [.ref ms, .ref mb, .ref mw, .int gr, .int (xs_look S p0 p1).1, .int ca, .int mv, .ref od, .ref pt, .int ct, .int fau, .ref fi, .ref re, .int cs, .ref rc, .ref rs, .ref so, .ref ot, .ref cn, .ref la, .int ce, .ref ro, .int rn])) ∧ qMR cy h' ms mb mw ra rk rv (S) ∧ qFm h h' y ra rk rv) (fun E h' => False) := by
  refine q_ofW (by decide) (by exact Nat.le_of_ble_eq_true rfl) ?_
  intro p e s m below meth c ls C hP hl
  have hx := C.1
  have hb := C.2.1
  have hS : va_S (qA N0) s.heap s.heap [] := va_S.rf
  have hl : lv_has ls 6 [(0, .ref y), (1, .int p0), (2, .long p1)] := hl
  have hle : qle h h := qle_rf
  have hY0 := hY
  obtain ⟨hms, hmb, hmw, hmd, hrs, kdw, smw, dpw, rww, nw, fw, gw, hRw⟩ := id hM
  subst hmw
  have fr : ∀ b o, h b = some o → b ≠ y → qOf (ra 28) (rk 28) (rv 28) b → h b = some o := fun b o hb _ _ => hb
  have faw := hRw.2.2.2.1
  have fkw := hRw.2.2.2.2.1
  have fvw := hRw.2.2.2.2.2
  unfold qRb at faw
  unfold qJr at fkw fvw
  have z0 : (0 : Int64).toInt = 0 := by decide
  refine lv_aload_n hx hb dX8_look_0 rfl (lv_at hl 0 rfl) ?_
  refine lv_iload_n hx hb dX8_look_1 rfl (lv_at hl 1 rfl) ?_
  refine q_callS (rest := [.ref y]) C (c_X8_isBuilder l D cy N0 h p0) kX8_isBuilder g1461 g1462 hP hS (by first | decide | omega) hl.1 rfl (by simp [q_catrf, q_cati, q_catl, q_cata, q_catn]) (by first | decide | omega) dX8_look_2 (fun q ce E h' H1 locs1 hE => hE.elim) (fun v hh1 H locs hq hP hS => ?_)
  obtain ⟨rfl, ⟨rfl, sl9⟩ | ⟨rfl, sl9⟩⟩ := hq
  · obtain ⟨bb, hb9, rfl⟩ := nI_of2 (M := 3) (n := 3) (by decide) sl9.1 sl9.2
    have ebb : bB3 (nI bb) = true := bB3_t sl9
    have ecb : (nI bb).toNatClampNeg = bb := nI_clamp (by omega)
    refine lv_iconst (v := nI 1) hx hb dX8_look_5 (by decide) ?_
    refine q_callV (rest := []) C (c_X8_good1 l D cy N0 h y ms mb (ra 28) od pt fi re rc rs so ot cn la ro gr cd ca mv ct fau cs ce rn (nI 1) hY) kX8_good g1249 g1251 rfl gp41 g4 hP hS hY (by first | decide | omega) hl.1 rfl (by decide) (by first | decide | omega) dX8_look_6 (fun q ce E h' H1 locs1 hE => hE.elim) (fun v hh2 H locs hq hP hS => ?_)
    obtain ⟨rfl, rfl⟩ := hq
    replace hP : qP D N0 (qs h y (.inr (8, [.ref ms, .ref mb, .ref (ra 28), .int gr, .int 0, .int ca, .int mv, .ref od, .ref pt, .int ct, .int fau, .ref fi, .ref re, .int cs, .ref rc, .ref rs, .ref so, .ref ot, .ref cn, .ref la, .int ce, .ref ro, .int rn]))) H := hP
    obtain ⟨hv1, ehv1⟩ : ∃ z : qH, z = qs h y (.inr (8, [.ref ms, .ref mb, .ref (ra 28), .int gr, .int 0, .int ca, .int mv, .ref od, .ref pt, .int ct, .int fau, .ref fi, .ref re, .int cs, .ref rc, .ref rs, .ref so, .ref ot, .ref cn, .ref la, .int ce, .ref ro, .int rn])) := ⟨_, rfl⟩
    rw [← ehv1] at hP
    have khv1 : ∀ b o, b ≠ y → h b = some o → hv1 b = some o := by rw [ehv1]; exact fun b o nb hb => (qs_ne nb).trans hb
    replace hms := khv1 _ _ (fun q => by subst q; have := hms.symm.trans hY; first | cases this | simp at this) hms
    replace hmb := khv1 _ _ (fun q => by subst q; have := hmb.symm.trans hY; first | cases this | simp at this) hmb
    replace faw := khv1 _ _ (fun q => by have z9 := faw; rw [q] at z9; have := z9.symm.trans hY; first | cases this | simp at this) faw
    replace fkw := khv1 _ _ (fun q => by have z9 := fkw; rw [q] at z9; have := z9.symm.trans hY; first | cases this | simp at this) fkw
    replace fvw := khv1 _ _ (fun q => by have z9 := fvw; rw [q] at z9; have := z9.symm.trans hY; first | cases this | simp at this) fvw
    replace hY : hv1 y = some (.inr (8, [.ref ms, .ref mb, .ref (ra 28), .int gr, .int 0, .int ca, .int mv, .ref od, .ref pt, .int ct, .int fau, .ref fi, .ref re, .int cs, .ref rc, .ref rs, .ref so, .ref ot, .ref cn, .ref la, .int ce, .ref ro, .int rn])) := by rw [ehv1]; exact qs_self
    clear ehv1
    replace fr := fun b o hb n1 n2 => khv1 b o n1 (fr b o hb n1 n2)
    refine lv_if_eq (tgt := 37) hx hb dX8_look_9 (by decide) (fun c9 => ?_) (fun c9 => ?_)
    · replace c9 : 1 = 0 := (nI_eq (a := 1) (b := 0) (by omega) (by omega)).mp c9
      exfalso; omega
    · replace c9 : ¬ 1 = 0 := fun zq => c9 ((nI_eq (a := 1) (b := 0) (by omega) (by omega)).mpr zq)
      refine lv_aload_n hx hb dX8_look_12 rfl (lv_at hl 0 rfl) ?_
      refine lv_aload_n hx hb dX8_look_13 rfl (lv_at hl 0 rfl) ?_
      refine q_get C hP hY rfl inX8 1 (by decide) g1168 rfl dX8_look_14 ?_
      refine lv_iload_n hx hb dX8_look_17 rfl (lv_at hl 1 rfl) ?_
      refine q_aaldR C hP hmb rfl (by omega) (by omega) rfl dX8_look_18 ?_
      obtain ⟨nbb, rwbb, Fbb, Gbb, hRbb, hnbb, hLbb, hKbb⟩ := hrs (24 + bb) (by omega)
      have apbb := hRbb.apart hRw (hmd.two (i := (24 + bb)) (j := 28) (by omega) (by omega) (by omega))
      replace hRbb := hRbb.keep2 (fun b o hb ho => fr b o ho (hRbb.ney hY0 hb) (hb.elim (fun q => q ▸ apbb.1) (fun hb => hb.elim (fun q => q ▸ apbb.2.1) (fun q => q ▸ apbb.2.2))))
      have fabb := hRbb.2.2.2.1
      have fkbb := hRbb.2.2.2.2.1
      have fvbb := hRbb.2.2.2.2.2
      unfold qRb at fabb
      unfold qJr at fkbb fvbb
      refine q_get C hP fabb rfl inX7 2 (by decide) g1142 rfl dX8_look_19 ?_
      refine lv_if_lt (tgt := 29) hx hb dX8_look_22 (by decide) (fun c22 => ?_) (fun c22 => ?_)
      · refine lv_iconst (v := nI 0) hx hb dX8_look_29 (by decide) ?_
        refine lv_iconst (v := nI 2) hx hb dX8_look_30 (by decide) ?_
        refine q_callV (rest := []) C (c_X8_good0 l D cy N0 hv1 y ms mb (ra 28) od pt fi re rc rs so ot cn la ro gr 0 ca mv ct fau cs ce rn (nI 2) hY) kX8_good g1249 g1251 rfl gp41 g4 hP hS hY (by first | decide | omega) hl.1 rfl (by decide) (by first | decide | omega) dX8_look_31 (fun q ce E h' H1 locs1 hE => hE.elim) (fun v hh3 H locs hq hP hS => ?_)
        obtain ⟨rfl, rfl⟩ := hq
        replace hP : qP D N0 (qs hv1 y (.inr (8, [.ref ms, .ref mb, .ref (ra 28), .int gr, .int (nI 2), .int ca, .int mv, .ref od, .ref pt, .int ct, .int fau, .ref fi, .ref re, .int cs, .ref rc, .ref rs, .ref so, .ref ot, .ref cn, .ref la, .int ce, .ref ro, .int rn]))) H := hP
        obtain ⟨hv2, ehv2⟩ : ∃ z : qH, z = qs hv1 y (.inr (8, [.ref ms, .ref mb, .ref (ra 28), .int gr, .int (nI 2), .int ca, .int mv, .ref od, .ref pt, .int ct, .int fau, .ref fi, .ref re, .int cs, .ref rc, .ref rs, .ref so, .ref ot, .ref cn, .ref la, .int ce, .ref ro, .int rn])) := ⟨_, rfl⟩
        rw [← ehv2] at hP
        have khv2 : ∀ b o, b ≠ y → hv1 b = some o → hv2 b = some o := by rw [ehv2]; exact fun b o nb hb => (qs_ne nb).trans hb
        replace hms := khv2 _ _ (fun q => by subst q; have := hms.symm.trans hY; first | cases this | simp at this) hms
        replace hmb := khv2 _ _ (fun q => by subst q; have := hmb.symm.trans hY; first | cases this | simp at this) hmb
        replace faw := khv2 _ _ (fun q => by have z9 := faw; rw [q] at z9; have := z9.symm.trans hY; first | cases this | simp at this) faw
        replace fkw := khv2 _ _ (fun q => by have z9 := fkw; rw [q] at z9; have := z9.symm.trans hY; first | cases this | simp at this) fkw
        replace fvw := khv2 _ _ (fun q => by have z9 := fvw; rw [q] at z9; have := z9.symm.trans hY; first | cases this | simp at this) fvw
        replace fabb := khv2 _ _ (fun q => by have z9 := fabb; rw [q] at z9; have := z9.symm.trans hY; first | cases this | simp at this) fabb
        replace fkbb := khv2 _ _ (fun q => by have z9 := fkbb; rw [q] at z9; have := z9.symm.trans hY; first | cases this | simp at this) fkbb
        replace fvbb := khv2 _ _ (fun q => by have z9 := fvbb; rw [q] at z9; have := z9.symm.trans hY; first | cases this | simp at this) fvbb
        replace hY : hv2 y = some (.inr (8, [.ref ms, .ref mb, .ref (ra 28), .int gr, .int (nI 2), .int ca, .int mv, .ref od, .ref pt, .int ct, .int fau, .ref fi, .ref re, .int cs, .ref rc, .ref rs, .ref so, .ref ot, .ref cn, .ref la, .int ce, .ref ro, .int rn])) := by rw [ehv2]; exact qs_self
        clear ehv2
        replace fr := fun b o hb n1 n2 => khv2 b o n1 (fr b o hb n1 n2)
        refine lv_if_ne (tgt := 39) hx hb dX8_look_34 (by decide) (fun c34 => ?_) (fun c34 => ?_)
        · replace c34 : ¬ 0 = 0 := fun zq => c34 ((nI_eq (a := 0) (b := 0) (by omega) (by omega)).mpr zq)
          exfalso; omega
        · replace c34 : 0 = 0 := (nI_eq (a := 0) (b := 0) (by omega) (by omega)).mp c34
          refine lv_lconst (v := 0) hx hb dX8_look_37 (by decide) ?_
          have ex : xs_look S (nI bb) p1 = (2, 0) := by unfold xs_look; rw [if_neg (by simp [ebb]), ecb, if_pos c22]
          obtain ⟨m9, f9⟩ := hM.fin0 hY0 (h' := hv2) ⟨hRw.1, hRw.2.1, hRw.2.2.1, faw, fkw, fvw⟩ fr
          exact q_lret C hP hS ⟨by first | (rw [ex]; done) | (rw [ex]; rfl), by rw [ex]; exact hY, by first | exact m9 | (rw [ex]; exact m9), f9⟩ (by omega) dX8_look_38
      · refine lv_iconst (v := nI 1) hx hb dX8_look_25 (by decide) ?_
        refine lv_goto (tgt := 30) hx hb dX8_look_26 (by decide) ?_
        refine lv_iconst (v := nI 2) hx hb dX8_look_30 (by decide) ?_
        refine q_callV (rest := []) C (c_X8_good1 l D cy N0 hv1 y ms mb (ra 28) od pt fi re rc rs so ot cn la ro gr 0 ca mv ct fau cs ce rn (nI 2) hY) kX8_good g1249 g1251 rfl gp41 g4 hP hS hY (by first | decide | omega) hl.1 rfl (by decide) (by first | decide | omega) dX8_look_31 (fun q ce E h' H1 locs1 hE => hE.elim) (fun v hh4 H locs hq hP hS => ?_)
        obtain ⟨rfl, rfl⟩ := hq
        replace hP : qP D N0 (qs hv1 y (.inr (8, [.ref ms, .ref mb, .ref (ra 28), .int gr, .int 0, .int ca, .int mv, .ref od, .ref pt, .int ct, .int fau, .ref fi, .ref re, .int cs, .ref rc, .ref rs, .ref so, .ref ot, .ref cn, .ref la, .int ce, .ref ro, .int rn]))) H := hP
        obtain ⟨hv3, ehv3⟩ : ∃ z : qH, z = qs hv1 y (.inr (8, [.ref ms, .ref mb, .ref (ra 28), .int gr, .int 0, .int ca, .int mv, .ref od, .ref pt, .int ct, .int fau, .ref fi, .ref re, .int cs, .ref rc, .ref rs, .ref so, .ref ot, .ref cn, .ref la, .int ce, .ref ro, .int rn])) := ⟨_, rfl⟩
        rw [← ehv3] at hP
        have khv3 : ∀ b o, b ≠ y → hv1 b = some o → hv3 b = some o := by rw [ehv3]; exact fun b o nb hb => (qs_ne nb).trans hb
        replace hms := khv3 _ _ (fun q => by subst q; have := hms.symm.trans hY; first | cases this | simp at this) hms
        replace hmb := khv3 _ _ (fun q => by subst q; have := hmb.symm.trans hY; first | cases this | simp at this) hmb
        replace faw := khv3 _ _ (fun q => by have z9 := faw; rw [q] at z9; have := z9.symm.trans hY; first | cases this | simp at this) faw
        replace fkw := khv3 _ _ (fun q => by have z9 := fkw; rw [q] at z9; have := z9.symm.trans hY; first | cases this | simp at this) fkw
        replace fvw := khv3 _ _ (fun q => by have z9 := fvw; rw [q] at z9; have := z9.symm.trans hY; first | cases this | simp at this) fvw
        replace fabb := khv3 _ _ (fun q => by have z9 := fabb; rw [q] at z9; have := z9.symm.trans hY; first | cases this | simp at this) fabb
        replace fkbb := khv3 _ _ (fun q => by have z9 := fkbb; rw [q] at z9; have := z9.symm.trans hY; first | cases this | simp at this) fkbb
        replace fvbb := khv3 _ _ (fun q => by have z9 := fvbb; rw [q] at z9; have := z9.symm.trans hY; first | cases this | simp at this) fvbb
        replace hY : hv3 y = some (.inr (8, [.ref ms, .ref mb, .ref (ra 28), .int gr, .int 0, .int ca, .int mv, .ref od, .ref pt, .int ct, .int fau, .ref fi, .ref re, .int cs, .ref rc, .ref rs, .ref so, .ref ot, .ref cn, .ref la, .int ce, .ref ro, .int rn])) := by rw [ehv3]; exact qs_self
        clear ehv3
        replace fr := fun b o hb n1 n2 => khv3 b o n1 (fr b o hb n1 n2)
        refine lv_if_ne (tgt := 39) hx hb dX8_look_34 (by decide) (fun c34 => ?_) (fun c34 => ?_)
        · replace c34 : ¬ 1 = 0 := fun zq => c34 ((nI_eq (a := 1) (b := 0) (by omega) (by omega)).mpr zq)
          refine lv_aload_n hx hb dX8_look_39 rfl (lv_at hl 0 rfl) ?_
          refine q_get C hP hY rfl inX8 1 (by decide) g1168 rfl dX8_look_40 ?_
          refine lv_iload_n hx hb dX8_look_43 rfl (lv_at hl 1 rfl) ?_
          refine q_aaldR C hP hmb rfl (by omega) (by omega) rfl dX8_look_44 ?_
          refine lv_astore (lv' := [(4, .ref (ra (24 + bb))), (0, .ref y), (1, .int (nI bb)), (2, .long p1)]) hx hb dX8_look_45 hl (by decide) rfl (fun ls hl => ?_)
          refine lv_aload hx hb dX8_look_47 (lv_at hl 0 rfl) ?_
          refine q_get C hP fabb rfl inX7 2 (by decide) g1142 rfl dX8_look_49 ?_
          refine lv_if_ne (tgt := 81) hx hb dX8_look_52 (by decide) (fun c52 => ?_) (fun c52 => ?_)
          · refine lv_aload hx hb dX8_look_81 (lv_at hl 0 rfl) ?_
            refine lv_lload_n hx hb dX8_look_83 rfl (lv_at hl 3 rfl) ?_
            refine q_callS (rest := []) C (c_X8_find l D cy N0 hv3 (ra (24 + bb)) (rk (24 + bb)) (rv (24 + bb)) ((S (24 + bb)).1) (nI (S (24 + bb)).2.2.1) (nI (S (24 + bb)).2.2.2) rwbb nbb Fbb Gbb p1 ⟨hRbb.1, hRbb.2.1, hRbb.2.2.1, fabb, fkbb, fvbb⟩ (by omega)) kX8_find g1279 g1280 hP hS (by first | decide | omega) hl.1 rfl (by decide) (by first | decide | omega) dX8_look_84 (fun q ce E h' H1 locs1 hE => hE.elim) (fun v hh5 H locs hq hP hS => ?_)
            obtain ⟨rfl, hq⟩ := hq
            rcases hq with ⟨j8, rfl, hj8, e8, m8⟩ | ⟨rfl, m8⟩
            · have hx8 := xHas_t (kd := (S (24 + bb)).1) (g := Gbb) hj8 e8
              rw [← hLbb] at hx8
              refine lv_istore (lv' := [(5, .int (nI j8)), (4, .ref (ra (24 + bb))), (0, .ref y), (1, .int (nI bb)), (2, .long p1)]) hx hb dX8_look_87 hl (by decide) rfl (fun ls hl => ?_)
              refine lv_aload_n hx hb dX8_look_89 rfl (lv_at hl 2 rfl) ?_
              refine lv_iload hx hb dX8_look_90 (lv_at hl 0 rfl) ?_
              refine lv_if_lt (tgt := 99) hx hb dX8_look_92 (by decide) (fun c92 => ?_) (fun c92 => ?_)
              · replace c92 : j8 < 0 := (nI_ltI (a := j8) (b := 0) (by omega) (by omega)).mp c92
                exfalso; omega
              · replace c92 : ¬ j8 < 0 := fun zq => c92 ((nI_ltI (a := j8) (b := 0) (by omega) (by omega)).mpr zq)
                refine lv_iconst (v := nI 1) hx hb dX8_look_95 (by decide) ?_
                refine lv_goto (tgt := 100) hx hb dX8_look_96 (by decide) ?_
                refine lv_iconst (v := nI 3) hx hb dX8_look_100 (by decide) ?_
                refine q_callV (rest := []) C (c_X8_good1 l D cy N0 hv3 y ms mb (ra 28) od pt fi re rc rs so ot cn la ro gr 0 ca mv ct fau cs ce rn (nI 3) hY) kX8_good g1249 g1251 rfl gp41 g4 hP hS hY (by first | decide | omega) hl.1 rfl (by decide) (by first | decide | omega) dX8_look_101 (fun q ce E h' H1 locs1 hE => hE.elim) (fun v hh6 H locs hq hP hS => ?_)
                obtain ⟨rfl, rfl⟩ := hq
                replace hP : qP D N0 (qs hv3 y (.inr (8, [.ref ms, .ref mb, .ref (ra 28), .int gr, .int 0, .int ca, .int mv, .ref od, .ref pt, .int ct, .int fau, .ref fi, .ref re, .int cs, .ref rc, .ref rs, .ref so, .ref ot, .ref cn, .ref la, .int ce, .ref ro, .int rn]))) H := hP
                obtain ⟨hv4, ehv4⟩ : ∃ z : qH, z = qs hv3 y (.inr (8, [.ref ms, .ref mb, .ref (ra 28), .int gr, .int 0, .int ca, .int mv, .ref od, .ref pt, .int ct, .int fau, .ref fi, .ref re, .int cs, .ref rc, .ref rs, .ref so, .ref ot, .ref cn, .ref la, .int ce, .ref ro, .int rn])) := ⟨_, rfl⟩
                rw [← ehv4] at hP
                have khv4 : ∀ b o, b ≠ y → hv3 b = some o → hv4 b = some o := by rw [ehv4]; exact fun b o nb hb => (qs_ne nb).trans hb
                replace hms := khv4 _ _ (fun q => by subst q; have := hms.symm.trans hY; first | cases this | simp at this) hms
                replace hmb := khv4 _ _ (fun q => by subst q; have := hmb.symm.trans hY; first | cases this | simp at this) hmb
                replace faw := khv4 _ _ (fun q => by have z9 := faw; rw [q] at z9; have := z9.symm.trans hY; first | cases this | simp at this) faw
                replace fkw := khv4 _ _ (fun q => by have z9 := fkw; rw [q] at z9; have := z9.symm.trans hY; first | cases this | simp at this) fkw
                replace fvw := khv4 _ _ (fun q => by have z9 := fvw; rw [q] at z9; have := z9.symm.trans hY; first | cases this | simp at this) fvw
                replace fabb := khv4 _ _ (fun q => by have z9 := fabb; rw [q] at z9; have := z9.symm.trans hY; first | cases this | simp at this) fabb
                replace fkbb := khv4 _ _ (fun q => by have z9 := fkbb; rw [q] at z9; have := z9.symm.trans hY; first | cases this | simp at this) fkbb
                replace fvbb := khv4 _ _ (fun q => by have z9 := fvbb; rw [q] at z9; have := z9.symm.trans hY; first | cases this | simp at this) fvbb
                replace hY : hv4 y = some (.inr (8, [.ref ms, .ref mb, .ref (ra 28), .int gr, .int 0, .int ca, .int mv, .ref od, .ref pt, .int ct, .int fau, .ref fi, .ref re, .int cs, .ref rc, .ref rs, .ref so, .ref ot, .ref cn, .ref la, .int ce, .ref ro, .int rn])) := by rw [ehv4]; exact qs_self
                clear ehv4
                replace fr := fun b o hb n1 n2 => khv4 b o n1 (fr b o hb n1 n2)
                refine lv_if_ne (tgt := 109) hx hb dX8_look_104 (by decide) (fun c104 => ?_) (fun c104 => ?_)
                · replace c104 : ¬ 1 = 0 := fun zq => c104 ((nI_eq (a := 1) (b := 0) (by omega) (by omega)).mpr zq)
                  refine lv_aload hx hb dX8_look_109 (lv_at hl 1 rfl) ?_
                  refine q_get C hP fabb rfl inX7 2 (by decide) g1142 rfl dX8_look_111 ?_
                  refine lv_if_ne (tgt := 128) hx hb dX8_look_114 (by decide) (fun _ => ?_) (fun c => absurd c c52)
                  refine lv_aload hx hb dX8_look_128 (lv_at hl 1 rfl) ?_
                  refine q_get C hP fabb rfl inX7 2 (by decide) g1142 rfl dX8_look_130 ?_
                  refine lv_iconst (v := 1) hx hb dX8_look_133 (by decide) ?_
                  refine lv_icmp_ne (tgt := 148) hx hb dX8_look_134 (by decide) (fun c134 => ?_) (fun c134 => ?_)
                  · refine lv_lconst (v := 1) hx hb dX8_look_148 (by decide) ?_
                    have ex : xs_look S (nI bb) p1 = (0, 1) := by unfold xs_look; rw [if_neg (by simp [ebb]), ecb, if_neg c22, if_neg c52, if_neg (by simp [hx8]), if_neg c134]
                    obtain ⟨m9, f9⟩ := hM.fin0 hY0 (h' := hv4) ⟨hRw.1, hRw.2.1, hRw.2.2.1, faw, fkw, fvw⟩ fr
                    exact q_lret C hP hS ⟨by first | (rw [ex]; done) | (rw [ex]; rfl), by rw [ex]; exact hY, by first | exact m9 | (rw [ex]; exact m9), f9⟩ (by omega) dX8_look_149
                  · refine lv_aload hx hb dX8_look_137 (lv_at hl 1 rfl) ?_
                    refine q_get C hP fabb rfl inX7 1 (by decide) g1140 rfl dX8_look_139 ?_
                    refine lv_iload hx hb dX8_look_142 (lv_at hl 0 rfl) ?_
                    refine q_laldN C hP fvbb (by omega) (by omega) dX8_look_144 ?_
                    refine lv_goto (tgt := 149) hx hb dX8_look_145 (by decide) ?_
                    have ex : xs_look S (nI bb) p1 = (0, Gbb j8) := by unfold xs_look; rw [if_neg (by simp [ebb]), ecb, if_neg c22, if_neg c52, if_neg (by simp [hx8]), if_pos c134, hLbb, xLook_row hj8 e8 m8, xV, if_pos (Or.inl c134)]
                    obtain ⟨m9, f9⟩ := hM.fin0 hY0 (h' := hv4) ⟨hRw.1, hRw.2.1, hRw.2.2.1, faw, fkw, fvw⟩ fr
                    exact q_lret C hP hS ⟨by first | (rw [ex]; done) | (rw [ex]; rfl), by rw [ex]; exact hY, by first | exact m9 | (rw [ex]; exact m9), f9⟩ (by omega) dX8_look_149
                · replace c104 : 1 = 0 := (nI_eq (a := 1) (b := 0) (by omega) (by omega)).mp c104
                  exfalso; omega
            · have hx8 := xHas_f (kd := (S (24 + bb)).1) (g := Gbb) m8
              rw [← hLbb] at hx8
              refine lv_istore (lv' := [(5, .int (-1)), (4, .ref (ra (24 + bb))), (0, .ref y), (1, .int (nI bb)), (2, .long p1)]) hx hb dX8_look_87 hl (by decide) rfl (fun ls hl => ?_)
              refine lv_aload_n hx hb dX8_look_89 rfl (lv_at hl 2 rfl) ?_
              refine lv_iload hx hb dX8_look_90 (lv_at hl 0 rfl) ?_
              refine lv_if_lt (tgt := 99) hx hb dX8_look_92 (by decide) (fun _ => ?_) (fun c => absurd (by decide) c)
              refine lv_iconst (v := nI 0) hx hb dX8_look_99 (by decide) ?_
              refine lv_iconst (v := nI 3) hx hb dX8_look_100 (by decide) ?_
              refine q_callV (rest := []) C (c_X8_good0 l D cy N0 hv3 y ms mb (ra 28) od pt fi re rc rs so ot cn la ro gr 0 ca mv ct fau cs ce rn (nI 3) hY) kX8_good g1249 g1251 rfl gp41 g4 hP hS hY (by first | decide | omega) hl.1 rfl (by decide) (by first | decide | omega) dX8_look_101 (fun q ce E h' H1 locs1 hE => hE.elim) (fun v hh7 H locs hq hP hS => ?_)
              obtain ⟨rfl, rfl⟩ := hq
              replace hP : qP D N0 (qs hv3 y (.inr (8, [.ref ms, .ref mb, .ref (ra 28), .int gr, .int (nI 3), .int ca, .int mv, .ref od, .ref pt, .int ct, .int fau, .ref fi, .ref re, .int cs, .ref rc, .ref rs, .ref so, .ref ot, .ref cn, .ref la, .int ce, .ref ro, .int rn]))) H := hP
              obtain ⟨hv5, ehv5⟩ : ∃ z : qH, z = qs hv3 y (.inr (8, [.ref ms, .ref mb, .ref (ra 28), .int gr, .int (nI 3), .int ca, .int mv, .ref od, .ref pt, .int ct, .int fau, .ref fi, .ref re, .int cs, .ref rc, .ref rs, .ref so, .ref ot, .ref cn, .ref la, .int ce, .ref ro, .int rn])) := ⟨_, rfl⟩
              rw [← ehv5] at hP
              have khv5 : ∀ b o, b ≠ y → hv3 b = some o → hv5 b = some o := by rw [ehv5]; exact fun b o nb hb => (qs_ne nb).trans hb
              replace hms := khv5 _ _ (fun q => by subst q; have := hms.symm.trans hY; first | cases this | simp at this) hms
              replace hmb := khv5 _ _ (fun q => by subst q; have := hmb.symm.trans hY; first | cases this | simp at this) hmb
              replace faw := khv5 _ _ (fun q => by have z9 := faw; rw [q] at z9; have := z9.symm.trans hY; first | cases this | simp at this) faw
              replace fkw := khv5 _ _ (fun q => by have z9 := fkw; rw [q] at z9; have := z9.symm.trans hY; first | cases this | simp at this) fkw
              replace fvw := khv5 _ _ (fun q => by have z9 := fvw; rw [q] at z9; have := z9.symm.trans hY; first | cases this | simp at this) fvw
              replace fabb := khv5 _ _ (fun q => by have z9 := fabb; rw [q] at z9; have := z9.symm.trans hY; first | cases this | simp at this) fabb
              replace fkbb := khv5 _ _ (fun q => by have z9 := fkbb; rw [q] at z9; have := z9.symm.trans hY; first | cases this | simp at this) fkbb
              replace fvbb := khv5 _ _ (fun q => by have z9 := fvbb; rw [q] at z9; have := z9.symm.trans hY; first | cases this | simp at this) fvbb
              replace hY : hv5 y = some (.inr (8, [.ref ms, .ref mb, .ref (ra 28), .int gr, .int (nI 3), .int ca, .int mv, .ref od, .ref pt, .int ct, .int fau, .ref fi, .ref re, .int cs, .ref rc, .ref rs, .ref so, .ref ot, .ref cn, .ref la, .int ce, .ref ro, .int rn])) := by rw [ehv5]; exact qs_self
              clear ehv5
              replace fr := fun b o hb n1 n2 => khv5 b o n1 (fr b o hb n1 n2)
              refine lv_if_ne (tgt := 109) hx hb dX8_look_104 (by decide) (fun c104 => ?_) (fun c104 => ?_)
              · replace c104 : ¬ 0 = 0 := fun zq => c104 ((nI_eq (a := 0) (b := 0) (by omega) (by omega)).mpr zq)
                exfalso; omega
              · replace c104 : 0 = 0 := (nI_eq (a := 0) (b := 0) (by omega) (by omega)).mp c104
                refine lv_lconst (v := 0) hx hb dX8_look_107 (by decide) ?_
                have ex : xs_look S (nI bb) p1 = (3, 0) := by unfold xs_look; rw [if_neg (by simp [ebb]), ecb, if_neg c22, if_neg c52, if_pos hx8]
                obtain ⟨m9, f9⟩ := hM.fin0 hY0 (h' := hv5) ⟨hRw.1, hRw.2.1, hRw.2.2.1, faw, fkw, fvw⟩ fr
                exact q_lret C hP hS ⟨by first | (rw [ex]; done) | (rw [ex]; rfl), by rw [ex]; exact hY, by first | exact m9 | (rw [ex]; exact m9), f9⟩ (by omega) dX8_look_108
          · refine lv_lload_n hx hb dX8_look_55 rfl (lv_at hl 3 rfl) ?_
            refine lv_lconst (v := 0) hx hb dX8_look_56 (by decide) ?_
            refine W.lcmp hx hb dX8_look_57 ?_
            refine lv_if_lt (tgt := 77) hx hb dX8_look_58 (by decide) (fun c58 => ?_) (fun c58 => ?_)
            · replace c58 : p1.toInt < (0 : Int64).toInt := Int64.lt_iff_toInt_lt.mp ((lg_cmp_lt _ _).mp c58)
              refine lv_iconst (v := -1) hx hb dX8_look_77 (by decide) ?_
              refine lv_goto (tgt := 87) hx hb dX8_look_78 (by decide) ?_
              refine lv_istore (lv' := [(5, .int (-1)), (4, .ref (ra (24 + bb))), (0, .ref y), (1, .int (nI bb)), (2, .long p1)]) hx hb dX8_look_87 hl (by decide) rfl (fun ls hl => ?_)
              refine lv_aload_n hx hb dX8_look_89 rfl (lv_at hl 2 rfl) ?_
              refine lv_iload hx hb dX8_look_90 (lv_at hl 0 rfl) ?_
              refine lv_if_lt (tgt := 99) hx hb dX8_look_92 (by decide) (fun _ => ?_) (fun c => absurd (by decide) c)
              refine lv_iconst (v := nI 0) hx hb dX8_look_99 (by decide) ?_
              refine lv_iconst (v := nI 3) hx hb dX8_look_100 (by decide) ?_
              refine q_callV (rest := []) C (c_X8_good0 l D cy N0 hv3 y ms mb (ra 28) od pt fi re rc rs so ot cn la ro gr 0 ca mv ct fau cs ce rn (nI 3) hY) kX8_good g1249 g1251 rfl gp41 g4 hP hS hY (by first | decide | omega) hl.1 rfl (by decide) (by first | decide | omega) dX8_look_101 (fun q ce E h' H1 locs1 hE => hE.elim) (fun v hh8 H locs hq hP hS => ?_)
              obtain ⟨rfl, rfl⟩ := hq
              replace hP : qP D N0 (qs hv3 y (.inr (8, [.ref ms, .ref mb, .ref (ra 28), .int gr, .int (nI 3), .int ca, .int mv, .ref od, .ref pt, .int ct, .int fau, .ref fi, .ref re, .int cs, .ref rc, .ref rs, .ref so, .ref ot, .ref cn, .ref la, .int ce, .ref ro, .int rn]))) H := hP
              obtain ⟨hv6, ehv6⟩ : ∃ z : qH, z = qs hv3 y (.inr (8, [.ref ms, .ref mb, .ref (ra 28), .int gr, .int (nI 3), .int ca, .int mv, .ref od, .ref pt, .int ct, .int fau, .ref fi, .ref re, .int cs, .ref rc, .ref rs, .ref so, .ref ot, .ref cn, .ref la, .int ce, .ref ro, .int rn])) := ⟨_, rfl⟩
              rw [← ehv6] at hP
              have khv6 : ∀ b o, b ≠ y → hv3 b = some o → hv6 b = some o := by rw [ehv6]; exact fun b o nb hb => (qs_ne nb).trans hb
              replace hms := khv6 _ _ (fun q => by subst q; have := hms.symm.trans hY; first | cases this | simp at this) hms
              replace hmb := khv6 _ _ (fun q => by subst q; have := hmb.symm.trans hY; first | cases this | simp at this) hmb
              replace faw := khv6 _ _ (fun q => by have z9 := faw; rw [q] at z9; have := z9.symm.trans hY; first | cases this | simp at this) faw
              replace fkw := khv6 _ _ (fun q => by have z9 := fkw; rw [q] at z9; have := z9.symm.trans hY; first | cases this | simp at this) fkw
              replace fvw := khv6 _ _ (fun q => by have z9 := fvw; rw [q] at z9; have := z9.symm.trans hY; first | cases this | simp at this) fvw
              replace fabb := khv6 _ _ (fun q => by have z9 := fabb; rw [q] at z9; have := z9.symm.trans hY; first | cases this | simp at this) fabb
              replace fkbb := khv6 _ _ (fun q => by have z9 := fkbb; rw [q] at z9; have := z9.symm.trans hY; first | cases this | simp at this) fkbb
              replace fvbb := khv6 _ _ (fun q => by have z9 := fvbb; rw [q] at z9; have := z9.symm.trans hY; first | cases this | simp at this) fvbb
              replace hY : hv6 y = some (.inr (8, [.ref ms, .ref mb, .ref (ra 28), .int gr, .int (nI 3), .int ca, .int mv, .ref od, .ref pt, .int ct, .int fau, .ref fi, .ref re, .int cs, .ref rc, .ref rs, .ref so, .ref ot, .ref cn, .ref la, .int ce, .ref ro, .int rn])) := by rw [ehv6]; exact qs_self
              clear ehv6
              replace fr := fun b o hb n1 n2 => khv6 b o n1 (fr b o hb n1 n2)
              refine lv_if_ne (tgt := 109) hx hb dX8_look_104 (by decide) (fun c104 => ?_) (fun c104 => ?_)
              · replace c104 : ¬ 0 = 0 := fun zq => c104 ((nI_eq (a := 0) (b := 0) (by omega) (by omega)).mpr zq)
                exfalso; omega
              · replace c104 : 0 = 0 := (nI_eq (a := 0) (b := 0) (by omega) (by omega)).mp c104
                refine lv_lconst (v := 0) hx hb dX8_look_107 (by decide) ?_
                have el9 := q_i2l (n := nbb) (by omega)
                have ex : xs_look S (nI bb) p1 = (3, 0) := by unfold xs_look; rw [if_neg (by simp [ebb]), ecb, if_neg c22, if_pos c52, show (S (24 + bb)).2.1.length = nbb from by rw [hLbb, qLs_len], if_neg (fun z => by omega)]
                obtain ⟨m9, f9⟩ := hM.fin0 hY0 (h' := hv6) ⟨hRw.1, hRw.2.1, hRw.2.2.1, faw, fkw, fvw⟩ fr
                exact q_lret C hP hS ⟨by first | (rw [ex]; done) | (rw [ex]; rfl), by rw [ex]; exact hY, by first | exact m9 | (rw [ex]; exact m9), f9⟩ (by omega) dX8_look_108
            · replace c58 : ¬ p1.toInt < (0 : Int64).toInt := fun zq => c58 ((lg_cmp_lt _ _).mpr (Int64.lt_iff_toInt_lt.mpr zq))
              refine lv_lload_n hx hb dX8_look_61 rfl (lv_at hl 3 rfl) ?_
              refine lv_aload hx hb dX8_look_62 (lv_at hl 0 rfl) ?_
              refine q_get C hP fabb rfl inX7 3 (by decide) g1143 rfl dX8_look_64 ?_
              refine lv_i2l hx hb dX8_look_67 rfl ?_
              refine W.lcmp hx hb dX8_look_68 ?_
              refine lv_if_ge (tgt := 77) hx hb dX8_look_69 (by decide) (fun c69 => ?_) (fun c69 => ?_)
              · replace c69 : (((nI nbb)).toInt64).toInt ≤ p1.toInt := Int64.le_iff_toInt_le.mp ((lg_cmp_ge _ _).mp c69)
                refine lv_iconst (v := -1) hx hb dX8_look_77 (by decide) ?_
                refine lv_goto (tgt := 87) hx hb dX8_look_78 (by decide) ?_
                refine lv_istore (lv' := [(5, .int (-1)), (4, .ref (ra (24 + bb))), (0, .ref y), (1, .int (nI bb)), (2, .long p1)]) hx hb dX8_look_87 hl (by decide) rfl (fun ls hl => ?_)
                refine lv_aload_n hx hb dX8_look_89 rfl (lv_at hl 2 rfl) ?_
                refine lv_iload hx hb dX8_look_90 (lv_at hl 0 rfl) ?_
                refine lv_if_lt (tgt := 99) hx hb dX8_look_92 (by decide) (fun _ => ?_) (fun c => absurd (by decide) c)
                refine lv_iconst (v := nI 0) hx hb dX8_look_99 (by decide) ?_
                refine lv_iconst (v := nI 3) hx hb dX8_look_100 (by decide) ?_
                refine q_callV (rest := []) C (c_X8_good0 l D cy N0 hv3 y ms mb (ra 28) od pt fi re rc rs so ot cn la ro gr 0 ca mv ct fau cs ce rn (nI 3) hY) kX8_good g1249 g1251 rfl gp41 g4 hP hS hY (by first | decide | omega) hl.1 rfl (by decide) (by first | decide | omega) dX8_look_101 (fun q ce E h' H1 locs1 hE => hE.elim) (fun v hh9 H locs hq hP hS => ?_)
                obtain ⟨rfl, rfl⟩ := hq
                replace hP : qP D N0 (qs hv3 y (.inr (8, [.ref ms, .ref mb, .ref (ra 28), .int gr, .int (nI 3), .int ca, .int mv, .ref od, .ref pt, .int ct, .int fau, .ref fi, .ref re, .int cs, .ref rc, .ref rs, .ref so, .ref ot, .ref cn, .ref la, .int ce, .ref ro, .int rn]))) H := hP
                obtain ⟨hv7, ehv7⟩ : ∃ z : qH, z = qs hv3 y (.inr (8, [.ref ms, .ref mb, .ref (ra 28), .int gr, .int (nI 3), .int ca, .int mv, .ref od, .ref pt, .int ct, .int fau, .ref fi, .ref re, .int cs, .ref rc, .ref rs, .ref so, .ref ot, .ref cn, .ref la, .int ce, .ref ro, .int rn])) := ⟨_, rfl⟩
                rw [← ehv7] at hP
                have khv7 : ∀ b o, b ≠ y → hv3 b = some o → hv7 b = some o := by rw [ehv7]; exact fun b o nb hb => (qs_ne nb).trans hb
                replace hms := khv7 _ _ (fun q => by subst q; have := hms.symm.trans hY; first | cases this | simp at this) hms
                replace hmb := khv7 _ _ (fun q => by subst q; have := hmb.symm.trans hY; first | cases this | simp at this) hmb
                replace faw := khv7 _ _ (fun q => by have z9 := faw; rw [q] at z9; have := z9.symm.trans hY; first | cases this | simp at this) faw
                replace fkw := khv7 _ _ (fun q => by have z9 := fkw; rw [q] at z9; have := z9.symm.trans hY; first | cases this | simp at this) fkw
                replace fvw := khv7 _ _ (fun q => by have z9 := fvw; rw [q] at z9; have := z9.symm.trans hY; first | cases this | simp at this) fvw
                replace fabb := khv7 _ _ (fun q => by have z9 := fabb; rw [q] at z9; have := z9.symm.trans hY; first | cases this | simp at this) fabb
                replace fkbb := khv7 _ _ (fun q => by have z9 := fkbb; rw [q] at z9; have := z9.symm.trans hY; first | cases this | simp at this) fkbb
                replace fvbb := khv7 _ _ (fun q => by have z9 := fvbb; rw [q] at z9; have := z9.symm.trans hY; first | cases this | simp at this) fvbb
                replace hY : hv7 y = some (.inr (8, [.ref ms, .ref mb, .ref (ra 28), .int gr, .int (nI 3), .int ca, .int mv, .ref od, .ref pt, .int ct, .int fau, .ref fi, .ref re, .int cs, .ref rc, .ref rs, .ref so, .ref ot, .ref cn, .ref la, .int ce, .ref ro, .int rn])) := by rw [ehv7]; exact qs_self
                clear ehv7
                replace fr := fun b o hb n1 n2 => khv7 b o n1 (fr b o hb n1 n2)
                refine lv_if_ne (tgt := 109) hx hb dX8_look_104 (by decide) (fun c104 => ?_) (fun c104 => ?_)
                · replace c104 : ¬ 0 = 0 := fun zq => c104 ((nI_eq (a := 0) (b := 0) (by omega) (by omega)).mpr zq)
                  exfalso; omega
                · replace c104 : 0 = 0 := (nI_eq (a := 0) (b := 0) (by omega) (by omega)).mp c104
                  refine lv_lconst (v := 0) hx hb dX8_look_107 (by decide) ?_
                  have el9 := q_i2l (n := nbb) (by omega)
                  have ex : xs_look S (nI bb) p1 = (3, 0) := by unfold xs_look; rw [if_neg (by simp [ebb]), ecb, if_neg c22, if_pos c52, show (S (24 + bb)).2.1.length = nbb from by rw [hLbb, qLs_len], if_neg (fun z => by omega)]
                  obtain ⟨m9, f9⟩ := hM.fin0 hY0 (h' := hv7) ⟨hRw.1, hRw.2.1, hRw.2.2.1, faw, fkw, fvw⟩ fr
                  exact q_lret C hP hS ⟨by first | (rw [ex]; done) | (rw [ex]; rfl), by rw [ex]; exact hY, by first | exact m9 | (rw [ex]; exact m9), f9⟩ (by omega) dX8_look_108
              · replace c69 : ¬ (((nI nbb)).toInt64).toInt ≤ p1.toInt := fun zq => c69 ((lg_cmp_ge _ _).mpr (Int64.le_iff_toInt_le.mpr zq))
                refine lv_lload_n hx hb dX8_look_72 rfl (lv_at hl 3 rfl) ?_
                have el9 := q_i2l (n := nbb) (by omega)
                obtain ⟨q, hq9⟩ : ∃ q : Nat, p1.toInt = q := ⟨p1.toInt.toNat, by omega⟩
                refine lv_l2i hx hb dX8_look_73 rfl ?_
                rw [q_l2i hq9 (by omega)]
                refine lv_goto (tgt := 87) hx hb dX8_look_74 (by decide) ?_
                refine lv_istore (lv' := [(5, .int (nI q)), (4, .ref (ra (24 + bb))), (0, .ref y), (1, .int (nI bb)), (2, .long p1)]) hx hb dX8_look_87 hl (by decide) rfl (fun ls hl => ?_)
                refine lv_aload_n hx hb dX8_look_89 rfl (lv_at hl 2 rfl) ?_
                refine lv_iload hx hb dX8_look_90 (lv_at hl 0 rfl) ?_
                refine lv_if_lt (tgt := 99) hx hb dX8_look_92 (by decide) (fun c92 => ?_) (fun c92 => ?_)
                · replace c92 : q < 0 := (nI_ltI (a := q) (b := 0) (by omega) (by omega)).mp c92
                  exfalso; omega
                · replace c92 : ¬ q < 0 := fun zq => c92 ((nI_ltI (a := q) (b := 0) (by omega) (by omega)).mpr zq)
                  refine lv_iconst (v := nI 1) hx hb dX8_look_95 (by decide) ?_
                  refine lv_goto (tgt := 100) hx hb dX8_look_96 (by decide) ?_
                  refine lv_iconst (v := nI 3) hx hb dX8_look_100 (by decide) ?_
                  refine q_callV (rest := []) C (c_X8_good1 l D cy N0 hv3 y ms mb (ra 28) od pt fi re rc rs so ot cn la ro gr 0 ca mv ct fau cs ce rn (nI 3) hY) kX8_good g1249 g1251 rfl gp41 g4 hP hS hY (by first | decide | omega) hl.1 rfl (by decide) (by first | decide | omega) dX8_look_101 (fun q ce E h' H1 locs1 hE => hE.elim) (fun v hh10 H locs hq hP hS => ?_)
                  obtain ⟨rfl, rfl⟩ := hq
                  replace hP : qP D N0 (qs hv3 y (.inr (8, [.ref ms, .ref mb, .ref (ra 28), .int gr, .int 0, .int ca, .int mv, .ref od, .ref pt, .int ct, .int fau, .ref fi, .ref re, .int cs, .ref rc, .ref rs, .ref so, .ref ot, .ref cn, .ref la, .int ce, .ref ro, .int rn]))) H := hP
                  obtain ⟨hv8, ehv8⟩ : ∃ z : qH, z = qs hv3 y (.inr (8, [.ref ms, .ref mb, .ref (ra 28), .int gr, .int 0, .int ca, .int mv, .ref od, .ref pt, .int ct, .int fau, .ref fi, .ref re, .int cs, .ref rc, .ref rs, .ref so, .ref ot, .ref cn, .ref la, .int ce, .ref ro, .int rn])) := ⟨_, rfl⟩
                  rw [← ehv8] at hP
                  have khv8 : ∀ b o, b ≠ y → hv3 b = some o → hv8 b = some o := by rw [ehv8]; exact fun b o nb hb => (qs_ne nb).trans hb
                  replace hms := khv8 _ _ (fun q => by subst q; have := hms.symm.trans hY; first | cases this | simp at this) hms
                  replace hmb := khv8 _ _ (fun q => by subst q; have := hmb.symm.trans hY; first | cases this | simp at this) hmb
                  replace faw := khv8 _ _ (fun q => by have z9 := faw; rw [q] at z9; have := z9.symm.trans hY; first | cases this | simp at this) faw
                  replace fkw := khv8 _ _ (fun q => by have z9 := fkw; rw [q] at z9; have := z9.symm.trans hY; first | cases this | simp at this) fkw
                  replace fvw := khv8 _ _ (fun q => by have z9 := fvw; rw [q] at z9; have := z9.symm.trans hY; first | cases this | simp at this) fvw
                  replace fabb := khv8 _ _ (fun q => by have z9 := fabb; rw [q] at z9; have := z9.symm.trans hY; first | cases this | simp at this) fabb
                  replace fkbb := khv8 _ _ (fun q => by have z9 := fkbb; rw [q] at z9; have := z9.symm.trans hY; first | cases this | simp at this) fkbb
                  replace fvbb := khv8 _ _ (fun q => by have z9 := fvbb; rw [q] at z9; have := z9.symm.trans hY; first | cases this | simp at this) fvbb
                  replace hY : hv8 y = some (.inr (8, [.ref ms, .ref mb, .ref (ra 28), .int gr, .int 0, .int ca, .int mv, .ref od, .ref pt, .int ct, .int fau, .ref fi, .ref re, .int cs, .ref rc, .ref rs, .ref so, .ref ot, .ref cn, .ref la, .int ce, .ref ro, .int rn])) := by rw [ehv8]; exact qs_self
                  clear ehv8
                  replace fr := fun b o hb n1 n2 => khv8 b o n1 (fr b o hb n1 n2)
                  refine lv_if_ne (tgt := 109) hx hb dX8_look_104 (by decide) (fun c104 => ?_) (fun c104 => ?_)
                  · replace c104 : ¬ 1 = 0 := fun zq => c104 ((nI_eq (a := 1) (b := 0) (by omega) (by omega)).mpr zq)
                    refine lv_aload hx hb dX8_look_109 (lv_at hl 1 rfl) ?_
                    refine q_get C hP fabb rfl inX7 2 (by decide) g1142 rfl dX8_look_111 ?_
                    refine lv_if_ne (tgt := 128) hx hb dX8_look_114 (by decide) (fun c => absurd c52 c) (fun _ => ?_)
                    refine lv_aload hx hb dX8_look_117 (lv_at hl 1 rfl) ?_
                    refine q_get C hP fabb rfl inX7 0 (by decide) g1138 rfl dX8_look_119 ?_
                    refine lv_iload hx hb dX8_look_122 (lv_at hl 0 rfl) ?_
                    refine q_laldN C hP fkbb (by omega) (by omega) dX8_look_124 ?_
                    refine lv_goto (tgt := 149) hx hb dX8_look_125 (by decide) ?_
                    have ex : xs_look S (nI bb) p1 = (0, Fbb q) := by unfold xs_look; rw [if_neg (by simp [ebb]), ecb, if_neg c22, if_pos c52, show (S (24 + bb)).2.1.length = nbb from by rw [hLbb, qLs_len], if_pos (by omega), hq9, hLbb, List.getD_eq_getElem?_getD, show ((q : Int)).toNat = q from rfl, qLs_get2 (by omega)]; rfl
                    obtain ⟨m9, f9⟩ := hM.fin0 hY0 (h' := hv8) ⟨hRw.1, hRw.2.1, hRw.2.2.1, faw, fkw, fvw⟩ fr
                    exact q_lret C hP hS ⟨by first | (rw [ex]; done) | (rw [ex]; rfl), by rw [ex]; exact hY, by first | exact m9 | (rw [ex]; exact m9), f9⟩ (by omega) dX8_look_149
                  · replace c104 : 1 = 0 := (nI_eq (a := 1) (b := 0) (by omega) (by omega)).mp c104
                    exfalso; omega
        · replace c34 : 1 = 0 := (nI_eq (a := 1) (b := 0) (by omega) (by omega)).mp c34
          exfalso; omega
  · have ebb : bB3 p0 = false := bB3_f sl9
    refine lv_iconst (v := nI 1) hx hb dX8_look_5 (by decide) ?_
    refine q_callV (rest := []) C (c_X8_good0 l D cy N0 h y ms mb (ra 28) od pt fi re rc rs so ot cn la ro gr cd ca mv ct fau cs ce rn (nI 1) hY) kX8_good g1249 g1251 rfl gp41 g4 hP hS hY (by first | decide | omega) hl.1 rfl (by decide) (by first | decide | omega) dX8_look_6 (fun q ce E h' H1 locs1 hE => hE.elim) (fun v hh11 H locs hq hP hS => ?_)
    obtain ⟨rfl, rfl⟩ := hq
    replace hP : qP D N0 (qs h y (.inr (8, [.ref ms, .ref mb, .ref (ra 28), .int gr, .int (nI 1), .int ca, .int mv, .ref od, .ref pt, .int ct, .int fau, .ref fi, .ref re, .int cs, .ref rc, .ref rs, .ref so, .ref ot, .ref cn, .ref la, .int ce, .ref ro, .int rn]))) H := hP
    obtain ⟨hv9, ehv9⟩ : ∃ z : qH, z = qs h y (.inr (8, [.ref ms, .ref mb, .ref (ra 28), .int gr, .int (nI 1), .int ca, .int mv, .ref od, .ref pt, .int ct, .int fau, .ref fi, .ref re, .int cs, .ref rc, .ref rs, .ref so, .ref ot, .ref cn, .ref la, .int ce, .ref ro, .int rn])) := ⟨_, rfl⟩
    rw [← ehv9] at hP
    have khv9 : ∀ b o, b ≠ y → h b = some o → hv9 b = some o := by rw [ehv9]; exact fun b o nb hb => (qs_ne nb).trans hb
    replace hms := khv9 _ _ (fun q => by subst q; have := hms.symm.trans hY; first | cases this | simp at this) hms
    replace hmb := khv9 _ _ (fun q => by subst q; have := hmb.symm.trans hY; first | cases this | simp at this) hmb
    replace faw := khv9 _ _ (fun q => by have z9 := faw; rw [q] at z9; have := z9.symm.trans hY; first | cases this | simp at this) faw
    replace fkw := khv9 _ _ (fun q => by have z9 := fkw; rw [q] at z9; have := z9.symm.trans hY; first | cases this | simp at this) fkw
    replace fvw := khv9 _ _ (fun q => by have z9 := fvw; rw [q] at z9; have := z9.symm.trans hY; first | cases this | simp at this) fvw
    replace hY : hv9 y = some (.inr (8, [.ref ms, .ref mb, .ref (ra 28), .int gr, .int (nI 1), .int ca, .int mv, .ref od, .ref pt, .int ct, .int fau, .ref fi, .ref re, .int cs, .ref rc, .ref rs, .ref so, .ref ot, .ref cn, .ref la, .int ce, .ref ro, .int rn])) := by rw [ehv9]; exact qs_self
    clear ehv9
    replace fr := fun b o hb n1 n2 => khv9 b o n1 (fr b o hb n1 n2)
    refine lv_if_eq (tgt := 37) hx hb dX8_look_9 (by decide) (fun c9 => ?_) (fun c9 => ?_)
    · replace c9 : 0 = 0 := (nI_eq (a := 0) (b := 0) (by omega) (by omega)).mp c9
      refine lv_lconst (v := 0) hx hb dX8_look_37 (by decide) ?_
      have ex : xs_look S p0 p1 = (1, 0) := by unfold xs_look; rw [if_pos ebb]
      obtain ⟨m9, f9⟩ := hM.fin0 hY0 (h' := hv9) ⟨hRw.1, hRw.2.1, hRw.2.2.1, faw, fkw, fvw⟩ fr
      exact q_lret C hP hS ⟨by first | (rw [ex]; done) | (rw [ex]; rfl), by rw [ex]; exact hY, by first | exact m9 | (rw [ex]; exact m9), f9⟩ (by omega) dX8_look_38
    · replace c9 : ¬ 0 = 0 := fun zq => c9 ((nI_eq (a := 0) (b := 0) (by omega) (by omega)).mpr zq)
      exfalso; omega

theorem dX8_count_71 : decode cX8_count 71 = .ok (.iinc 2 1, 3) := by decide +kernel
set_option maxRecDepth 100000 in
set_option maxHeartbeats 4000000 in
theorem c_X8_count (l : Launch) (D : va_G) (cy : Nat → ClassId) (N0 : Nat) (h : qH) (y ms mb mw od pt fi re rc rs so ot cn la ro : Nat) (gr cd ca mv ct fau cs ce rn : Int32) (ra rk rv : Nat → Nat) (S : Nat → qSlot) (p0 : Int32) (hY : h y = some (.inr (8, [.ref ms, .ref mb, .ref mw, .int gr, .int cd, .int ca, .int mv, .ref od, .ref pt, .int ct, .int fau, .ref fi, .ref re, .int cs, .ref rc, .ref rs, .ref so, .ref ot, .ref cn, .ref la, .int ce, .ref ro, .int rn]))) (hM : qMR cy h ms mb mw ra rk rv S) : qC l D cy N0 yX8_count cX8_count 4 (some .int) 1 22 0 0 [.ref y, .int p0] h (fun v h' => v = some (.int (xs_count S ca mv p0).2) ∧ h' y = some (.inr (8, [.ref ms, .ref mb, .ref mw, .int gr, .int (xs_count S ca mv p0).1, .int ca, .int mv, .ref od, .ref pt, .int ct, .int fau, .ref fi, .ref re, .int cs, .ref rc, .ref rs, .ref so, .ref ot, .ref cn, .ref la, .int ce, .ref ro, .int rn])) ∧ qMR cy h' ms mb mw ra rk rv (S) ∧ qFm h h' y ra rk rv) (fun E h' => False) := by
  refine q_ofW (by decide) (by exact Nat.le_of_ble_eq_true rfl) ?_
  intro p e s m below meth c ls C hP hl
  have hx := C.1
  have hb := C.2.1
  have hS : va_S (qA N0) s.heap s.heap [] := va_S.rf
  have hl : lv_has ls 4 [(0, .ref y), (1, .int p0)] := hl
  have hle : qle h h := qle_rf
  have hY0 := hY
  obtain ⟨hms, hmb, hmw, hmd, hrs, kdw, smw, dpw, rww, nw, fw, gw, hRw⟩ := id hM
  subst hmw
  have fr : ∀ b o, h b = some o → b ≠ y → qOf (ra 28) (rk 28) (rv 28) b → h b = some o := fun b o hb _ _ => hb
  have faw := hRw.2.2.2.1
  have fkw := hRw.2.2.2.2.1
  have fvw := hRw.2.2.2.2.2
  unfold qRb at faw
  unfold qJr at fkw fvw
  refine lv_aload_n hx hb dX8_count_0 rfl (lv_at hl 0 rfl) ?_
  refine lv_iload_n hx hb dX8_count_1 rfl (lv_at hl 1 rfl) ?_
  refine lv_if_lt (tgt := 14) hx hb dX8_count_2 (by decide) (fun c2 => ?_) (fun c2 => ?_)
  · have ebk : bIn p0 3 = false := bIn_f (fun z => z.1 c2)
    refine lv_iconst (v := nI 0) hx hb dX8_count_14 (by decide) ?_
    refine lv_iconst (v := nI 1) hx hb dX8_count_15 (by decide) ?_
    refine q_callV (rest := []) C (c_X8_good0 l D cy N0 h y ms mb (ra 28) od pt fi re rc rs so ot cn la ro gr cd ca mv ct fau cs ce rn (nI 1) hY) kX8_good g1249 g1251 rfl gp41 g4 hP hS hY (by first | decide | omega) hl.1 rfl (by decide) (by first | decide | omega) dX8_count_16 (fun q ce E h' H1 locs1 hE => hE.elim) (fun v hh1 H locs hq hP hS => ?_)
    obtain ⟨rfl, rfl⟩ := hq
    replace hP : qP D N0 (qs h y (.inr (8, [.ref ms, .ref mb, .ref (ra 28), .int gr, .int (nI 1), .int ca, .int mv, .ref od, .ref pt, .int ct, .int fau, .ref fi, .ref re, .int cs, .ref rc, .ref rs, .ref so, .ref ot, .ref cn, .ref la, .int ce, .ref ro, .int rn]))) H := hP
    obtain ⟨hv1, ehv1⟩ : ∃ z : qH, z = qs h y (.inr (8, [.ref ms, .ref mb, .ref (ra 28), .int gr, .int (nI 1), .int ca, .int mv, .ref od, .ref pt, .int ct, .int fau, .ref fi, .ref re, .int cs, .ref rc, .ref rs, .ref so, .ref ot, .ref cn, .ref la, .int ce, .ref ro, .int rn])) := ⟨_, rfl⟩
    rw [← ehv1] at hP
    have khv1 : ∀ b o, b ≠ y → h b = some o → hv1 b = some o := by rw [ehv1]; exact fun b o nb hb => (qs_ne nb).trans hb
    replace hms := khv1 _ _ (fun q => by subst q; have := hms.symm.trans hY; first | cases this | simp at this) hms
    replace hmb := khv1 _ _ (fun q => by subst q; have := hmb.symm.trans hY; first | cases this | simp at this) hmb
    replace faw := khv1 _ _ (fun q => by have z9 := faw; rw [q] at z9; have := z9.symm.trans hY; first | cases this | simp at this) faw
    replace fkw := khv1 _ _ (fun q => by have z9 := fkw; rw [q] at z9; have := z9.symm.trans hY; first | cases this | simp at this) fkw
    replace fvw := khv1 _ _ (fun q => by have z9 := fvw; rw [q] at z9; have := z9.symm.trans hY; first | cases this | simp at this) fvw
    replace hY : hv1 y = some (.inr (8, [.ref ms, .ref mb, .ref (ra 28), .int gr, .int (nI 1), .int ca, .int mv, .ref od, .ref pt, .int ct, .int fau, .ref fi, .ref re, .int cs, .ref rc, .ref rs, .ref so, .ref ot, .ref cn, .ref la, .int ce, .ref ro, .int rn])) := by rw [ehv1]; exact qs_self
    clear ehv1
    replace fr := fun b o hb n1 n2 => khv1 b o n1 (fr b o hb n1 n2)
    refine lv_if_ne (tgt := 24) hx hb dX8_count_19 (by decide) (fun c19 => ?_) (fun c19 => ?_)
    · replace c19 : ¬ 0 = 0 := fun zq => c19 ((nI_eq (a := 0) (b := 0) (by omega) (by omega)).mpr zq)
      exfalso; omega
    · replace c19 : 0 = 0 := (nI_eq (a := 0) (b := 0) (by omega) (by omega)).mp c19
      refine lv_iconst (v := nI 0) hx hb dX8_count_22 (by decide) ?_
      have ex : xs_count S ca mv p0 = (1, 0) := by unfold xs_count; rw [if_pos ebk]
      obtain ⟨m9, f9⟩ := hM.fin0 hY0 (h' := hv1) ⟨hRw.1, hRw.2.1, hRw.2.2.1, faw, fkw, fvw⟩ fr
      exact q_iret C hP hS ⟨by first | (rw [ex]; done) | (rw [ex]; rfl), by rw [ex]; exact hY, by first | exact m9 | (rw [ex]; exact m9), f9⟩ (by omega) dX8_count_23
  · refine lv_iload_n hx hb dX8_count_5 rfl (lv_at hl 1 rfl) ?_
    refine lv_iconst (v := 3) hx hb dX8_count_6 (by decide) ?_
    refine lv_icmp_gt (tgt := 14) hx hb dX8_count_7 (by decide) (fun c7 => ?_) (fun c7 => ?_)
    · have ebk : bIn p0 3 = false := bIn_f (fun z => q32_no c7 z.2)
      refine lv_iconst (v := nI 0) hx hb dX8_count_14 (by decide) ?_
      refine lv_iconst (v := nI 1) hx hb dX8_count_15 (by decide) ?_
      refine q_callV (rest := []) C (c_X8_good0 l D cy N0 h y ms mb (ra 28) od pt fi re rc rs so ot cn la ro gr cd ca mv ct fau cs ce rn (nI 1) hY) kX8_good g1249 g1251 rfl gp41 g4 hP hS hY (by first | decide | omega) hl.1 rfl (by decide) (by first | decide | omega) dX8_count_16 (fun q ce E h' H1 locs1 hE => hE.elim) (fun v hh2 H locs hq hP hS => ?_)
      obtain ⟨rfl, rfl⟩ := hq
      replace hP : qP D N0 (qs h y (.inr (8, [.ref ms, .ref mb, .ref (ra 28), .int gr, .int (nI 1), .int ca, .int mv, .ref od, .ref pt, .int ct, .int fau, .ref fi, .ref re, .int cs, .ref rc, .ref rs, .ref so, .ref ot, .ref cn, .ref la, .int ce, .ref ro, .int rn]))) H := hP
      obtain ⟨hv2, ehv2⟩ : ∃ z : qH, z = qs h y (.inr (8, [.ref ms, .ref mb, .ref (ra 28), .int gr, .int (nI 1), .int ca, .int mv, .ref od, .ref pt, .int ct, .int fau, .ref fi, .ref re, .int cs, .ref rc, .ref rs, .ref so, .ref ot, .ref cn, .ref la, .int ce, .ref ro, .int rn])) := ⟨_, rfl⟩
      rw [← ehv2] at hP
      have khv2 : ∀ b o, b ≠ y → h b = some o → hv2 b = some o := by rw [ehv2]; exact fun b o nb hb => (qs_ne nb).trans hb
      replace hms := khv2 _ _ (fun q => by subst q; have := hms.symm.trans hY; first | cases this | simp at this) hms
      replace hmb := khv2 _ _ (fun q => by subst q; have := hmb.symm.trans hY; first | cases this | simp at this) hmb
      replace faw := khv2 _ _ (fun q => by have z9 := faw; rw [q] at z9; have := z9.symm.trans hY; first | cases this | simp at this) faw
      replace fkw := khv2 _ _ (fun q => by have z9 := fkw; rw [q] at z9; have := z9.symm.trans hY; first | cases this | simp at this) fkw
      replace fvw := khv2 _ _ (fun q => by have z9 := fvw; rw [q] at z9; have := z9.symm.trans hY; first | cases this | simp at this) fvw
      replace hY : hv2 y = some (.inr (8, [.ref ms, .ref mb, .ref (ra 28), .int gr, .int (nI 1), .int ca, .int mv, .ref od, .ref pt, .int ct, .int fau, .ref fi, .ref re, .int cs, .ref rc, .ref rs, .ref so, .ref ot, .ref cn, .ref la, .int ce, .ref ro, .int rn])) := by rw [ehv2]; exact qs_self
      clear ehv2
      replace fr := fun b o hb n1 n2 => khv2 b o n1 (fr b o hb n1 n2)
      refine lv_if_ne (tgt := 24) hx hb dX8_count_19 (by decide) (fun c19 => ?_) (fun c19 => ?_)
      · replace c19 : ¬ 0 = 0 := fun zq => c19 ((nI_eq (a := 0) (b := 0) (by omega) (by omega)).mpr zq)
        exfalso; omega
      · replace c19 : 0 = 0 := (nI_eq (a := 0) (b := 0) (by omega) (by omega)).mp c19
        refine lv_iconst (v := nI 0) hx hb dX8_count_22 (by decide) ?_
        have ex : xs_count S ca mv p0 = (1, 0) := by unfold xs_count; rw [if_pos ebk]
        obtain ⟨m9, f9⟩ := hM.fin0 hY0 (h' := hv2) ⟨hRw.1, hRw.2.1, hRw.2.2.1, faw, fkw, fvw⟩ fr
        exact q_iret C hP hS ⟨by first | (rw [ex]; done) | (rw [ex]; rfl), by rw [ex]; exact hY, by first | exact m9 | (rw [ex]; exact m9), f9⟩ (by omega) dX8_count_23
    · have ebk : bIn p0 3 = true := bIn_t ⟨c2, q32_not c7⟩
      refine lv_iconst (v := nI 1) hx hb dX8_count_10 (by decide) ?_
      refine lv_goto (tgt := 15) hx hb dX8_count_11 (by decide) ?_
      refine lv_iconst (v := nI 1) hx hb dX8_count_15 (by decide) ?_
      refine q_callV (rest := []) C (c_X8_good1 l D cy N0 h y ms mb (ra 28) od pt fi re rc rs so ot cn la ro gr cd ca mv ct fau cs ce rn (nI 1) hY) kX8_good g1249 g1251 rfl gp41 g4 hP hS hY (by first | decide | omega) hl.1 rfl (by decide) (by first | decide | omega) dX8_count_16 (fun q ce E h' H1 locs1 hE => hE.elim) (fun v hh3 H locs hq hP hS => ?_)
      obtain ⟨rfl, rfl⟩ := hq
      replace hP : qP D N0 (qs h y (.inr (8, [.ref ms, .ref mb, .ref (ra 28), .int gr, .int 0, .int ca, .int mv, .ref od, .ref pt, .int ct, .int fau, .ref fi, .ref re, .int cs, .ref rc, .ref rs, .ref so, .ref ot, .ref cn, .ref la, .int ce, .ref ro, .int rn]))) H := hP
      obtain ⟨hv3, ehv3⟩ : ∃ z : qH, z = qs h y (.inr (8, [.ref ms, .ref mb, .ref (ra 28), .int gr, .int 0, .int ca, .int mv, .ref od, .ref pt, .int ct, .int fau, .ref fi, .ref re, .int cs, .ref rc, .ref rs, .ref so, .ref ot, .ref cn, .ref la, .int ce, .ref ro, .int rn])) := ⟨_, rfl⟩
      rw [← ehv3] at hP
      have khv3 : ∀ b o, b ≠ y → h b = some o → hv3 b = some o := by rw [ehv3]; exact fun b o nb hb => (qs_ne nb).trans hb
      replace hms := khv3 _ _ (fun q => by subst q; have := hms.symm.trans hY; first | cases this | simp at this) hms
      replace hmb := khv3 _ _ (fun q => by subst q; have := hmb.symm.trans hY; first | cases this | simp at this) hmb
      replace faw := khv3 _ _ (fun q => by have z9 := faw; rw [q] at z9; have := z9.symm.trans hY; first | cases this | simp at this) faw
      replace fkw := khv3 _ _ (fun q => by have z9 := fkw; rw [q] at z9; have := z9.symm.trans hY; first | cases this | simp at this) fkw
      replace fvw := khv3 _ _ (fun q => by have z9 := fvw; rw [q] at z9; have := z9.symm.trans hY; first | cases this | simp at this) fvw
      replace hY : hv3 y = some (.inr (8, [.ref ms, .ref mb, .ref (ra 28), .int gr, .int 0, .int ca, .int mv, .ref od, .ref pt, .int ct, .int fau, .ref fi, .ref re, .int cs, .ref rc, .ref rs, .ref so, .ref ot, .ref cn, .ref la, .int ce, .ref ro, .int rn])) := by rw [ehv3]; exact qs_self
      clear ehv3
      replace fr := fun b o hb n1 n2 => khv3 b o n1 (fr b o hb n1 n2)
      refine lv_if_ne (tgt := 24) hx hb dX8_count_19 (by decide) (fun c19 => ?_) (fun c19 => ?_)
      · replace c19 : ¬ 1 = 0 := fun zq => c19 ((nI_eq (a := 1) (b := 0) (by omega) (by omega)).mpr zq)
        refine lv_iload_n hx hb dX8_count_24 rfl (lv_at hl 1 rfl) ?_
        refine lv_if_ne (tgt := 33) hx hb dX8_count_25 (by decide) (fun c25 => ?_) (fun c25 => ?_)
        · refine lv_iload_n hx hb dX8_count_33 rfl (lv_at hl 1 rfl) ?_
          refine lv_iconst (v := 1) hx hb dX8_count_34 (by decide) ?_
          refine lv_icmp_ne (tgt := 43) hx hb dX8_count_35 (by decide) (fun c35 => ?_) (fun c35 => ?_)
          · refine lv_iload_n hx hb dX8_count_43 rfl (lv_at hl 1 rfl) ?_
            refine lv_iconst (v := 3) hx hb dX8_count_44 (by decide) ?_
            refine lv_icmp_ne (tgt := 50) hx hb dX8_count_45 (by decide) (fun c45 => ?_) (fun c45 => ?_)
            · refine lv_iconst (v := nI 0) hx hb dX8_count_50 (by decide) ?_
              refine lv_istore_n (lv' := [(2, .int (nI 0)), (0, .ref y), (1, .int p0)]) hx hb dX8_count_51 rfl hl (by decide) rfl (fun ls hl => ?_)
              refine lv_iconst (v := nI 0) hx hb dX8_count_52 (by decide) ?_
              refine lv_istore_n (lv' := [(3, .int (nI 0)), (2, .int (nI 0)), (0, .ref y), (1, .int p0)]) hx hb dX8_count_53 rfl hl (by decide) rfl (fun ls hl => ?_)
              refine (?_ : ∀ (t : Nat) (H : Heap) (locs : List Loc) (ls : Array Slot) (j : Nat), 4 - j < t → lv_has ls 4 [(3, .int (nI j)), (2, .int (nI (xOp S j))), (0, .ref y), (1, .int p0)] → j ≤ 4 → qP D N0 hv3 H → va_S (qA N0) s.heap H locs → W p l e _ s m _ below meth c H locs 0 0 _ (F0 m 54 ls [])) _ H locs ls 0 (Nat.lt_succ_self _) (lv_sub hl [0, 1, 2, 3] rfl) (Nat.zero_le _) hP hS
              clear hl hP hS
              intro t
              induction t with
              | zero => intro H locs ls j ht; exact absurd ht (Nat.not_lt_zero _)
              | succ t ihl =>
                intro H locs ls j ht hl hj hP hS
                have hop := xOp_le (S := S) j
                refine lv_iload_n hx hb dX8_count_54 rfl (lv_at hl 0 rfl) ?_
                refine lv_iconst (v := nI 4) hx hb dX8_count_55 (by decide) ?_
                refine lv_icmp_ge (tgt := 80) hx hb dX8_count_56 (by decide) (fun c56 => ?_) (fun c56 => ?_)
                · replace c56 : 4 ≤ j := (nI_leI (a := 4) (b := j) (by omega) (by omega)).mp c56
                  refine lv_iload_n hx hb dX8_count_80 rfl (lv_at hl 1 rfl) ?_
                  have ex : xs_count S ca mv p0 = (0, nI (xOp S j)) := by unfold xs_count; rw [if_neg (by simp [ebk]), if_neg c25, if_neg c35, if_neg c45, show j = 4 by omega]
                  obtain ⟨m9, f9⟩ := hM.fin0 hY0 (h' := hv3) ⟨hRw.1, hRw.2.1, hRw.2.2.1, faw, fkw, fvw⟩ fr
                  exact q_iret C hP hS ⟨by first | (rw [ex]; done) | (rw [ex]; rfl), by rw [ex]; exact hY, by first | exact m9 | (rw [ex]; exact m9), f9⟩ (by omega) dX8_count_81
                · replace c56 : ¬ 4 ≤ j := fun zq => c56 ((nI_leI (a := 4) (b := j) (by omega) (by omega)).mpr zq)
                  refine lv_aload_n hx hb dX8_count_59 rfl (lv_at hl 2 rfl) ?_
                  refine q_get C hP hY rfl inX8 1 (by decide) g1168 rfl dX8_count_60 ?_
                  refine lv_iload_n hx hb dX8_count_63 rfl (lv_at hl 0 rfl) ?_
                  refine q_aaldR C hP hmb rfl (by omega) (by omega) rfl dX8_count_64 ?_
                  obtain ⟨nj, rwj, Fj, Gj, hRj, hnj, hLj, hKj⟩ := hrs (24 + j) (by omega)
                  have apj := hRj.apart hRw (hmd.two (i := (24 + j)) (j := 28) (by omega) (by omega) (by omega))
                  replace hRj := hRj.keep2 (fun b o hb ho => fr b o ho (hRj.ney hY0 hb) (hb.elim (fun q => q ▸ apj.1) (fun hb => hb.elim (fun q => q ▸ apj.2.1) (fun q => q ▸ apj.2.2))))
                  have faj := hRj.2.2.2.1
                  have fkj := hRj.2.2.2.2.1
                  have fvj := hRj.2.2.2.2.2
                  unfold qRb at faj
                  unfold qJr at fkj fvj
                  refine q_get C hP faj rfl inX7 2 (by decide) g1142 rfl dX8_count_65 ?_
                  refine lv_if_lt (tgt := 74) hx hb dX8_count_68 (by decide) (fun c68 => ?_) (fun c68 => ?_)
                  · refine lv_iinc (v := nI (j + 1)) (lv' := [(3, .int (nI (j + 1))), (2, .int (nI (xOp S j))), (0, .ref y), (1, .int p0)]) hx hb dX8_count_74 hl (k := 0) rfl (nI_1 j) (by decide) rfl (fun ls hl => ?_)
                    refine lv_goto (tgt := 54) hx hb dX8_count_77 (by decide) ?_
                    exact ihl H locs ls (j + 1) (by omega) (by rw [show xOp S (j + 1) = xOp S j + 0 from (by show xOp S j + (if _ then 0 else 1) = _; rw [if_pos c68])]; exact lv_sub hl [0, 1, 2, 3] rfl) (by omega) hP hS
                  · refine lv_iinc (v := nI ((xOp S j) + 1)) (lv' := [(2, .int (nI ((xOp S j) + 1))), (3, .int (nI j)), (0, .ref y), (1, .int p0)]) hx hb dX8_count_71 hl (k := 1) rfl (nI_1 (xOp S j)) (by decide) rfl (fun ls hl => ?_)
                    refine lv_iinc (v := nI (j + 1)) (lv' := [(3, .int (nI (j + 1))), (2, .int (nI ((xOp S j) + 1))), (0, .ref y), (1, .int p0)]) hx hb dX8_count_74 hl (k := 1) rfl (nI_1 j) (by decide) rfl (fun ls hl => ?_)
                    refine lv_goto (tgt := 54) hx hb dX8_count_77 (by decide) ?_
                    exact ihl H locs ls (j + 1) (by omega) (by rw [show xOp S (j + 1) = xOp S j + 1 from (by show xOp S j + (if _ then 0 else 1) = _; rw [if_neg c68])]; exact lv_sub hl [0, 1, 2, 3] rfl) (by omega) hP hS
            · refine lv_iconst (v := nI 0) hx hb dX8_count_48 (by decide) ?_
              have ex : xs_count S ca mv p0 = (0, 0) := by unfold xs_count; rw [if_neg (by simp [ebk]), if_neg c25, if_neg c35, if_pos c45]
              obtain ⟨m9, f9⟩ := hM.fin0 hY0 (h' := hv3) ⟨hRw.1, hRw.2.1, hRw.2.2.1, faw, fkw, fvw⟩ fr
              exact q_iret C hP hS ⟨by first | (rw [ex]; done) | (rw [ex]; rfl), by rw [ex]; exact hY, by first | exact m9 | (rw [ex]; exact m9), f9⟩ (by omega) dX8_count_49
          · refine lv_aload_n hx hb dX8_count_38 rfl (lv_at hl 0 rfl) ?_
            refine q_get C hP hY rfl inX8 6 (by decide) g1173 rfl dX8_count_39 ?_
            have ex : xs_count S ca mv p0 = (0, mv) := by unfold xs_count; rw [if_neg (by simp [ebk]), if_neg c25, if_pos c35]
            obtain ⟨m9, f9⟩ := hM.fin0 hY0 (h' := hv3) ⟨hRw.1, hRw.2.1, hRw.2.2.1, faw, fkw, fvw⟩ fr
            exact q_iret C hP hS ⟨by first | (rw [ex]; done) | (rw [ex]; rfl), by rw [ex]; exact hY, by first | exact m9 | (rw [ex]; exact m9), f9⟩ (by omega) dX8_count_42
        · refine lv_aload_n hx hb dX8_count_28 rfl (lv_at hl 0 rfl) ?_
          refine q_get C hP hY rfl inX8 5 (by decide) g1172 rfl dX8_count_29 ?_
          have ex : xs_count S ca mv p0 = (0, ca) := by unfold xs_count; rw [if_neg (by simp [ebk]), if_pos c25]
          obtain ⟨m9, f9⟩ := hM.fin0 hY0 (h' := hv3) ⟨hRw.1, hRw.2.1, hRw.2.2.1, faw, fkw, fvw⟩ fr
          exact q_iret C hP hS ⟨by first | (rw [ex]; done) | (rw [ex]; rfl), by rw [ex]; exact hY, by first | exact m9 | (rw [ex]; exact m9), f9⟩ (by omega) dX8_count_32
      · replace c19 : 1 = 0 := (nI_eq (a := 1) (b := 0) (by omega) (by omega)).mp c19
        exfalso; omega

theorem qLs_take {kd : Int32} {f g : Nat → Int64} {n m : Nat} (h : m ≤ n) : qLs kd f g m = (qLs kd f g n).take m := by
  refine qLs_eq ?_ (fun j hj => ?_)
  · rw [List.length_take, qLs_len]; omega
  · rw [List.getElem?_take_of_lt hj, qLs_get2 (by omega)]
def xr_buildS (S : Nat → qSlot) (B w : Nat) (k v : Int64) : Int32 × (Nat → qSlot) × Int32 :=
  if w = 1 then (if 0 ≤ k.toInt ∧ k.toInt < (S B).2.1.length then (0, qU S B ((S B).1, (S B).2.1.set k.toInt.toNat (v, 0), (S B).2.2), nI (S B).2.1.length) else (4, S, 0)) else
  if w = 2 then (if 0 < (S B).2.1.length then (0, qU S B ((S B).1, (S B).2.1.take ((S B).2.1.length - 1), (S B).2.2), nI ((S B).2.1.length - 1)) else (4, S, 0)) else
  if (S B).2.1.length < 1000 then (0, qU S B ((S B).1, (S B).2.1 ++ [(v, 0)], (S B).2.2), nI ((S B).2.1.length + 1)) else (5, S, 0)
def xr_buildH (gr : Int32) (S : Nat → qSlot) (B w : Nat) (k v : Int64) : Int32 × (Nat → qSlot) × Int32 :=
  if w = 1 then (3, S, 0) else
  if w = 0 then (if xHas (S B).2.1 k = true ∨ ((S B).2.1.length < 1000 ∧ ¬ 15 < xAl gr (S B).2.1 k) then (0, qU S B ((S B).1, xPut (S B).1 false (S B).2.1 k (xV (S B).1 v), (S B).2.2), nI (xPut (S B).1 false (S B).2.1 k (xV (S B).1 v)).length) else (5, S, 0)) else
  (0, qU S B ((S B).1, (S B).2.1.filter (fun p => decide (p.1 ≠ k)), (S B).2.2), nI ((S B).2.1.filter (fun p => decide (p.1 ≠ k))).length)
def xs_build (gr : Int32) (S : Nat → qSlot) (p0 p1 : Int32) (k v : Int64) : Int32 × (Nat → qSlot) × Int32 := if bB3 p0 = false ∨ bIn p1 2 = false then (1, S, 0) else if (S (24 + p0.toNatClampNeg)).1 < 0 then (2, S, 0) else if (S (24 + p0.toNatClampNeg)).1 = 0 then xr_buildS S (24 + p0.toNatClampNeg) p1.toNatClampNeg k v else xr_buildH gr S (24 + p0.toNatClampNeg) p1.toNatClampNeg k v
theorem dX8_build_42 : decode cX8_build 42 = .ok (.iconst 1, 1) := by decide +kernel
theorem dX8_build_43 : decode cX8_build 43 = .ok (.goto 4, 3) := by decide +kernel
theorem dX8_build_56 : decode cX8_build 56 = .ok (.aload_n 0, 1) := by decide +kernel
theorem dX8_build_57 : decode cX8_build 57 = .ok (.getfield 15, 3) := by decide +kernel
theorem dX8_build_60 : decode cX8_build 60 = .ok (.iload_n 1, 1) := by decide +kernel
theorem dX8_build_61 : decode cX8_build 61 = .ok (.aaload, 1) := by decide +kernel
theorem dX8_build_62 : decode cX8_build 62 = .ok (.astore 7, 2) := by decide +kernel
theorem dX8_build_64 : decode cX8_build 64 = .ok (.aload 7, 2) := by decide +kernel
theorem dX8_build_66 : decode cX8_build 66 = .ok (.getfield 75, 3) := by decide +kernel
theorem dX8_build_69 : decode cX8_build 69 = .ok (.ifCond .ne 149, 3) := by decide +kernel
theorem dX8_build_72 : decode cX8_build 72 = .ok (.iload_n 2, 1) := by decide +kernel
theorem dX8_build_73 : decode cX8_build 73 = .ok (.iconst 1, 1) := by decide +kernel
theorem dX8_build_74 : decode cX8_build 74 = .ok (.if_icmp .ne 33, 3) := by decide +kernel
theorem dX8_build_77 : decode cX8_build 77 = .ok (.aload_n 0, 1) := by decide +kernel
theorem dX8_build_78 : decode cX8_build 78 = .ok (.lload_n 3, 1) := by decide +kernel
theorem dX8_build_79 : decode cX8_build 79 = .ok (.lconst 0, 1) := by decide +kernel
theorem dX8_build_80 : decode cX8_build 80 = .ok (.lcmp, 1) := by decide +kernel
theorem dX8_build_81 : decode cX8_build 81 = .ok (.ifCond .lt 18, 3) := by decide +kernel
theorem dX8_build_84 : decode cX8_build 84 = .ok (.lload_n 3, 1) := by decide +kernel
theorem dX8_build_85 : decode cX8_build 85 = .ok (.aload 7, 2) := by decide +kernel
theorem dX8_build_87 : decode cX8_build 87 = .ok (.getfield 78, 3) := by decide +kernel
theorem dX8_build_90 : decode cX8_build 90 = .ok (.i2l, 1) := by decide +kernel
theorem dX8_build_91 : decode cX8_build 91 = .ok (.lcmp, 1) := by decide +kernel
theorem dX8_build_92 : decode cX8_build 92 = .ok (.ifCond .ge 7, 3) := by decide +kernel
theorem dX8_build_95 : decode cX8_build 95 = .ok (.iconst 1, 1) := by decide +kernel
theorem dX8_build_96 : decode cX8_build 96 = .ok (.goto 4, 3) := by decide +kernel
theorem dX8_build_99 : decode cX8_build 99 = .ok (.iconst 0, 1) := by decide +kernel
theorem dX8_build_100 : decode cX8_build 100 = .ok (.iconst 4, 1) := by decide +kernel
theorem dX8_build_101 : decode cX8_build 101 = .ok (.invokevirtual 100, 3) := by decide +kernel
theorem dX8_build_104 : decode cX8_build 104 = .ok (.ifCond .eq 57, 3) := by decide +kernel
theorem dX8_build_107 : decode cX8_build 107 = .ok (.iload_n 2, 1) := by decide +kernel
theorem dX8_build_108 : decode cX8_build 108 = .ok (.iconst 2, 1) := by decide +kernel
theorem dX8_build_109 : decode cX8_build 109 = .ok (.if_icmp .ne 24, 3) := by decide +kernel
theorem dX8_build_112 : decode cX8_build 112 = .ok (.aload_n 0, 1) := by decide +kernel
theorem dX8_build_113 : decode cX8_build 113 = .ok (.aload 7, 2) := by decide +kernel
theorem dX8_build_115 : decode cX8_build 115 = .ok (.getfield 78, 3) := by decide +kernel
theorem dX8_build_118 : decode cX8_build 118 = .ok (.ifCond .le 7, 3) := by decide +kernel
theorem dX8_build_121 : decode cX8_build 121 = .ok (.iconst 1, 1) := by decide +kernel
theorem dX8_build_122 : decode cX8_build 122 = .ok (.goto 4, 3) := by decide +kernel
theorem dX8_build_125 : decode cX8_build 125 = .ok (.iconst 0, 1) := by decide +kernel
theorem dX8_build_126 : decode cX8_build 126 = .ok (.iconst 4, 1) := by decide +kernel
theorem dX8_build_127 : decode cX8_build 127 = .ok (.invokevirtual 100, 3) := by decide +kernel
theorem dX8_build_130 : decode cX8_build 130 = .ok (.ifCond .eq 31, 3) := by decide +kernel
theorem dX8_build_133 : decode cX8_build 133 = .ok (.iload_n 2, 1) := by decide +kernel
theorem dX8_build_134 : decode cX8_build 134 = .ok (.ifCond .ne 29, 3) := by decide +kernel
theorem dX8_build_137 : decode cX8_build 137 = .ok (.aload_n 0, 1) := by decide +kernel
theorem dX8_build_138 : decode cX8_build 138 = .ok (.aload 7, 2) := by decide +kernel
theorem dX8_build_140 : decode cX8_build 140 = .ok (.getfield 78, 3) := by decide +kernel
theorem dX8_build_143 : decode cX8_build 143 = .ok (.sipush 1000, 3) := by decide +kernel
theorem dX8_build_146 : decode cX8_build 146 = .ok (.if_icmp .ge 7, 3) := by decide +kernel
theorem dX8_build_149 : decode cX8_build 149 = .ok (.iconst 1, 1) := by decide +kernel
theorem dX8_build_150 : decode cX8_build 150 = .ok (.goto 4, 3) := by decide +kernel
theorem dX8_build_153 : decode cX8_build 153 = .ok (.iconst 0, 1) := by decide +kernel
theorem dX8_build_154 : decode cX8_build 154 = .ok (.iconst 5, 1) := by decide +kernel
theorem dX8_build_155 : decode cX8_build 155 = .ok (.invokevirtual 100, 3) := by decide +kernel
theorem dX8_build_158 : decode cX8_build 158 = .ok (.ifCond .ne 5, 3) := by decide +kernel
theorem dX8_build_161 : decode cX8_build 161 = .ok (.iconst 0, 1) := by decide +kernel
theorem dX8_build_162 : decode cX8_build 162 = .ok (.ireturn, 1) := by decide +kernel
theorem dX8_build_163 : decode cX8_build 163 = .ok (.iload_n 2, 1) := by decide +kernel
theorem dX8_build_164 : decode cX8_build 164 = .ok (.ifCond .ne 19, 3) := by decide +kernel
theorem dX8_build_167 : decode cX8_build 167 = .ok (.aload 7, 2) := by decide +kernel
theorem dX8_build_169 : decode cX8_build 169 = .ok (.aload 7, 2) := by decide +kernel
theorem dX8_build_171 : decode cX8_build 171 = .ok (.getfield 78, 3) := by decide +kernel
theorem dX8_build_174 : decode cX8_build 174 = .ok (.lload 5, 2) := by decide +kernel
theorem dX8_build_176 : decode cX8_build 176 = .ok (.lconst 0, 1) := by decide +kernel
theorem dX8_build_177 : decode cX8_build 177 = .ok (.invokestatic 116, 3) := by decide +kernel
theorem dX8_build_180 : decode cX8_build 180 = .ok (.goto 32, 3) := by decide +kernel
theorem dX8_build_183 : decode cX8_build 183 = .ok (.iload_n 2, 1) := by decide +kernel
theorem dX8_build_184 : decode cX8_build 184 = .ok (.iconst 1, 1) := by decide +kernel
theorem dX8_build_185 : decode cX8_build 185 = .ok (.if_icmp .ne 16, 3) := by decide +kernel
theorem dX8_build_188 : decode cX8_build 188 = .ok (.aload 7, 2) := by decide +kernel
theorem dX8_build_190 : decode cX8_build 190 = .ok (.getfield 90, 3) := by decide +kernel
theorem dX8_build_193 : decode cX8_build 193 = .ok (.lload_n 3, 1) := by decide +kernel
theorem dX8_build_194 : decode cX8_build 194 = .ok (.l2i, 1) := by decide +kernel
theorem dX8_build_195 : decode cX8_build 195 = .ok (.lload 5, 2) := by decide +kernel
theorem dX8_build_197 : decode cX8_build 197 = .ok (.lastore, 1) := by decide +kernel
theorem dX8_build_198 : decode cX8_build 198 = .ok (.goto 14, 3) := by decide +kernel
theorem dX8_build_201 : decode cX8_build 201 = .ok (.aload 7, 2) := by decide +kernel
theorem dX8_build_203 : decode cX8_build 203 = .ok (.dup, 1) := by decide +kernel
theorem dX8_build_204 : decode cX8_build 204 = .ok (.getfield 78, 3) := by decide +kernel
theorem dX8_build_207 : decode cX8_build 207 = .ok (.iconst 1, 1) := by decide +kernel
theorem dX8_build_208 : decode cX8_build 208 = .ok (.isub, 1) := by decide +kernel
theorem dX8_build_209 : decode cX8_build 209 = .ok (.putfield 78, 3) := by decide +kernel
theorem dX8_build_212 : decode cX8_build 212 = .ok (.aload 7, 2) := by decide +kernel
theorem dX8_build_214 : decode cX8_build 214 = .ok (.getfield 78, 3) := by decide +kernel
theorem dX8_build_217 : decode cX8_build 217 = .ok (.ireturn, 1) := by decide +kernel
theorem dX8_build_218 : decode cX8_build 218 = .ok (.aload_n 0, 1) := by decide +kernel
theorem dX8_build_219 : decode cX8_build 219 = .ok (.iload_n 2, 1) := by decide +kernel
theorem dX8_build_220 : decode cX8_build 220 = .ok (.iconst 1, 1) := by decide +kernel
theorem dX8_build_221 : decode cX8_build 221 = .ok (.if_icmp .eq 7, 3) := by decide +kernel
theorem dX8_build_224 : decode cX8_build 224 = .ok (.iconst 1, 1) := by decide +kernel
theorem dX8_build_225 : decode cX8_build 225 = .ok (.goto 4, 3) := by decide +kernel
theorem dX8_build_228 : decode cX8_build 228 = .ok (.iconst 0, 1) := by decide +kernel
theorem dX8_build_229 : decode cX8_build 229 = .ok (.iconst 3, 1) := by decide +kernel
theorem dX8_build_230 : decode cX8_build 230 = .ok (.invokevirtual 100, 3) := by decide +kernel
theorem dX8_build_233 : decode cX8_build 233 = .ok (.ifCond .ne 5, 3) := by decide +kernel
theorem dX8_build_236 : decode cX8_build 236 = .ok (.iconst 0, 1) := by decide +kernel
theorem dX8_build_237 : decode cX8_build 237 = .ok (.ireturn, 1) := by decide +kernel
theorem dX8_build_238 : decode cX8_build 238 = .ok (.aload 7, 2) := by decide +kernel
theorem dX8_build_240 : decode cX8_build 240 = .ok (.lload_n 3, 1) := by decide +kernel
theorem dX8_build_241 : decode cX8_build 241 = .ok (.invokestatic 112, 3) := by decide +kernel
theorem dX8_build_244 : decode cX8_build 244 = .ok (.istore 8, 2) := by decide +kernel
theorem dX8_build_246 : decode cX8_build 246 = .ok (.iload_n 2, 1) := by decide +kernel
theorem dX8_build_247 : decode cX8_build 247 = .ok (.ifCond .ne 56, 3) := by decide +kernel
theorem dX8_build_250 : decode cX8_build 250 = .ok (.aload_n 0, 1) := by decide +kernel
theorem dX8_build_251 : decode cX8_build 251 = .ok (.iload 8, 2) := by decide +kernel
theorem dX8_build_253 : decode cX8_build 253 = .ok (.ifCond .ge 24, 3) := by decide +kernel
theorem dX8_build_256 : decode cX8_build 256 = .ok (.aload 7, 2) := by decide +kernel
theorem dX8_build_258 : decode cX8_build 258 = .ok (.getfield 78, 3) := by decide +kernel
theorem dX8_build_261 : decode cX8_build 261 = .ok (.sipush 1000, 3) := by decide +kernel
theorem dX8_build_264 : decode cX8_build 264 = .ok (.if_icmp .ge 17, 3) := by decide +kernel
theorem dX8_build_267 : decode cX8_build 267 = .ok (.aload_n 0, 1) := by decide +kernel
theorem dX8_build_268 : decode cX8_build 268 = .ok (.aload 7, 2) := by decide +kernel
theorem dX8_build_270 : decode cX8_build 270 = .ok (.lload_n 3, 1) := by decide +kernel
theorem dX8_build_271 : decode cX8_build 271 = .ok (.invokevirtual 225, 3) := by decide +kernel
theorem dX8_build_274 : decode cX8_build 274 = .ok (.ifCond .ne 7, 3) := by decide +kernel
theorem dX8_build_277 : decode cX8_build 277 = .ok (.iconst 1, 1) := by decide +kernel
theorem dX8_build_278 : decode cX8_build 278 = .ok (.goto 4, 3) := by decide +kernel
theorem dX8_build_281 : decode cX8_build 281 = .ok (.iconst 0, 1) := by decide +kernel
theorem dX8_build_282 : decode cX8_build 282 = .ok (.iconst 5, 1) := by decide +kernel
theorem dX8_build_283 : decode cX8_build 283 = .ok (.invokevirtual 100, 3) := by decide +kernel
theorem dX8_build_286 : decode cX8_build 286 = .ok (.ifCond .ne 5, 3) := by decide +kernel
theorem dX8_build_289 : decode cX8_build 289 = .ok (.iconst 0, 1) := by decide +kernel
theorem dX8_build_290 : decode cX8_build 290 = .ok (.ireturn, 1) := by decide +kernel
theorem dX8_build_291 : decode cX8_build 291 = .ok (.aload 7, 2) := by decide +kernel
theorem dX8_build_293 : decode cX8_build 293 = .ok (.lload_n 3, 1) := by decide +kernel
theorem dX8_build_294 : decode cX8_build 294 = .ok (.lload 5, 2) := by decide +kernel
theorem dX8_build_296 : decode cX8_build 296 = .ok (.iconst 0, 1) := by decide +kernel
theorem dX8_build_297 : decode cX8_build 297 = .ok (.invokestatic 127, 3) := by decide +kernel
theorem dX8_build_300 : decode cX8_build 300 = .ok (.goto 15, 3) := by decide +kernel
theorem dX8_build_303 : decode cX8_build 303 = .ok (.iload 8, 2) := by decide +kernel
theorem dX8_build_305 : decode cX8_build 305 = .ok (.ifCond .lt 10, 3) := by decide +kernel
theorem dX8_build_308 : decode cX8_build 308 = .ok (.aload 7, 2) := by decide +kernel
theorem dX8_build_310 : decode cX8_build 310 = .ok (.iload 8, 2) := by decide +kernel
theorem dX8_build_312 : decode cX8_build 312 = .ok (.invokestatic 161, 3) := by decide +kernel
theorem dX8_build_315 : decode cX8_build 315 = .ok (.aload 7, 2) := by decide +kernel
theorem dX8_build_317 : decode cX8_build 317 = .ok (.getfield 78, 3) := by decide +kernel
theorem dX8_build_320 : decode cX8_build 320 = .ok (.ireturn, 1) := by decide +kernel
set_option maxRecDepth 100000 in
set_option maxHeartbeats 4000000 in
theorem c_X8_build (l : Launch) (D : va_G) (cy : Nat → ClassId) (N0 : Nat) (h : qH) (y ms mb mw od pt fi re rc rs so ot cn la ro : Nat) (gr cd ca mv ct fau cs ce rn : Int32) (ra rk rv : Nat → Nat) (S : Nat → qSlot) (p0 p1 : Int32) (p2 p3 : Int64) (hY : h y = some (.inr (8, [.ref ms, .ref mb, .ref mw, .int gr, .int cd, .int ca, .int mv, .ref od, .ref pt, .int ct, .int fau, .ref fi, .ref re, .int cs, .ref rc, .ref rs, .ref so, .ref ot, .ref cn, .ref la, .int ce, .ref ro, .int rn]))) (hM : qMR cy h ms mb mw ra rk rv S) (hI : ∀ i, i < 28 → qOk (S i).1 (S i).2.1) (hkd0 : ∀ b, b < 4 → (S (24 + b)).1 = -1 ∨ (S (24 + b)).1 = 0 ∨ (S (24 + b)).1 = 1 ∨ (S (24 + b)).1 = 2) : qC l D cy N0 yX8_build cX8_build 9 (some .int) 2 60 0 0 [.ref y, .int p0, .int p1, .long p2, .long p3] h (fun v h' => v = some (.int (xs_build gr S p0 p1 p2 p3).2.2) ∧ h' y = some (.inr (8, [.ref ms, .ref mb, .ref mw, .int gr, .int (xs_build gr S p0 p1 p2 p3).1, .int ca, .int mv, .ref od, .ref pt, .int ct, .int fau, .ref fi, .ref re, .int cs, .ref rc, .ref rs, .ref so, .ref ot, .ref cn, .ref la, .int ce, .ref ro, .int rn])) ∧ qMR cy h' ms mb mw ra rk rv ((xs_build gr S p0 p1 p2 p3).2.1) ∧ qFm h h' y ra rk rv) (fun E h' => False) := by
  refine q_ofW (by decide) (by exact Nat.le_of_ble_eq_true rfl) ?_
  intro p e s m below meth c ls C hP hl
  have hx := C.1
  have hb := C.2.1
  have hS : va_S (qA N0) s.heap s.heap [] := va_S.rf
  have hl : lv_has ls 9 [(0, .ref y), (1, .int p0), (2, .int p1), (3, .long p2), (5, .long p3)] := hl
  have hle : qle h h := qle_rf
  have hkd : ∀ b, b < 4 → ¬ (S (24 + b)).1 < 0 → ¬ (S (24 + b)).1 = 0 → (S (24 + b)).1 = 1 ∨ (S (24 + b)).1 = 2 ∨ (S (24 + b)).1 = 3 := fun b hb h1 h2 => by rcases hkd0 b hb with z | z | z | z <;> first | exact Or.inl z | exact Or.inr (Or.inl z) | exact absurd z h2 | (rw [z] at h1; exact absurd (by decide) h1)
  have hY0 := hY
  obtain ⟨hms, hmb, hmw, hmd, hrs, kdw, smw, dpw, rww, nw, fw, gw, hRw⟩ := id hM
  subst hmw
  have fr : ∀ b o, h b = some o → b ≠ y → qOf (ra 28) (rk 28) (rv 28) b → h b = some o := fun b o hb _ _ => hb
  have faw := hRw.2.2.2.1
  have fkw := hRw.2.2.2.2.1
  have fvw := hRw.2.2.2.2.2
  unfold qRb at faw
  unfold qJr at fkw fvw
  have z0 : (0 : Int64).toInt = 0 := by decide
  refine lv_aload_n hx hb dX8_build_0 rfl (lv_at hl 0 rfl) ?_
  refine lv_iload_n hx hb dX8_build_1 rfl (lv_at hl 1 rfl) ?_
  refine q_callS (rest := [.ref y]) C (c_X8_isBuilder l D cy N0 h p0) kX8_isBuilder g1461 g1462 hP hS (by first | decide | omega) hl.1 rfl (by simp [q_catrf, q_cati, q_catl, q_cata, q_catn]) (by first | decide | omega) dX8_build_2 (fun q ce E h' H1 locs1 hE => hE.elim) (fun v hh1 H locs hq hP hS => ?_)
  obtain ⟨rfl, ⟨rfl, sl9⟩ | ⟨rfl, sl9⟩⟩ := hq
  · obtain ⟨bb, hb9, rfl⟩ := nI_of2 (M := 3) (n := 3) (by decide) sl9.1 sl9.2
    have ebb : bB3 (nI bb) = true := bB3_t sl9
    have ecb : (nI bb).toNatClampNeg = bb := nI_clamp (by omega)
    refine lv_if_eq (tgt := 21) hx hb dX8_build_5 (by decide) (fun c5 => ?_) (fun c5 => ?_)
    · replace c5 : 1 = 0 := (nI_eq (a := 1) (b := 0) (by omega) (by omega)).mp c5
      exfalso; omega
    · replace c5 : ¬ 1 = 0 := fun zq => c5 ((nI_eq (a := 1) (b := 0) (by omega) (by omega)).mpr zq)
      refine lv_iload_n hx hb dX8_build_8 rfl (lv_at hl 2 rfl) ?_
      refine lv_if_lt (tgt := 21) hx hb dX8_build_9 (by decide) (fun c9 => ?_) (fun c9 => ?_)
      · have ebk : bIn p1 2 = false := bIn_f (fun z => z.1 c9)
        refine lv_iconst (v := nI 0) hx hb dX8_build_21 (by decide) ?_
        refine lv_iconst (v := nI 1) hx hb dX8_build_22 (by decide) ?_
        refine q_callV (rest := []) C (c_X8_good0 l D cy N0 h y ms mb (ra 28) od pt fi re rc rs so ot cn la ro gr cd ca mv ct fau cs ce rn (nI 1) hY) kX8_good g1249 g1251 rfl gp41 g4 hP hS hY (by first | decide | omega) hl.1 rfl (by decide) (by first | decide | omega) dX8_build_23 (fun q ce E h' H1 locs1 hE => hE.elim) (fun v hh2 H locs hq hP hS => ?_)
        obtain ⟨rfl, rfl⟩ := hq
        replace hP : qP D N0 (qs h y (.inr (8, [.ref ms, .ref mb, .ref (ra 28), .int gr, .int (nI 1), .int ca, .int mv, .ref od, .ref pt, .int ct, .int fau, .ref fi, .ref re, .int cs, .ref rc, .ref rs, .ref so, .ref ot, .ref cn, .ref la, .int ce, .ref ro, .int rn]))) H := hP
        obtain ⟨hv1, ehv1⟩ : ∃ z : qH, z = qs h y (.inr (8, [.ref ms, .ref mb, .ref (ra 28), .int gr, .int (nI 1), .int ca, .int mv, .ref od, .ref pt, .int ct, .int fau, .ref fi, .ref re, .int cs, .ref rc, .ref rs, .ref so, .ref ot, .ref cn, .ref la, .int ce, .ref ro, .int rn])) := ⟨_, rfl⟩
        rw [← ehv1] at hP
        have khv1 : ∀ b o, b ≠ y → h b = some o → hv1 b = some o := by rw [ehv1]; exact fun b o nb hb => (qs_ne nb).trans hb
        replace hms := khv1 _ _ (fun q => by subst q; have := hms.symm.trans hY; first | cases this | simp at this) hms
        replace hmb := khv1 _ _ (fun q => by subst q; have := hmb.symm.trans hY; first | cases this | simp at this) hmb
        replace faw := khv1 _ _ (fun q => by have z9 := faw; rw [q] at z9; have := z9.symm.trans hY; first | cases this | simp at this) faw
        replace fkw := khv1 _ _ (fun q => by have z9 := fkw; rw [q] at z9; have := z9.symm.trans hY; first | cases this | simp at this) fkw
        replace fvw := khv1 _ _ (fun q => by have z9 := fvw; rw [q] at z9; have := z9.symm.trans hY; first | cases this | simp at this) fvw
        replace hY : hv1 y = some (.inr (8, [.ref ms, .ref mb, .ref (ra 28), .int gr, .int (nI 1), .int ca, .int mv, .ref od, .ref pt, .int ct, .int fau, .ref fi, .ref re, .int cs, .ref rc, .ref rs, .ref so, .ref ot, .ref cn, .ref la, .int ce, .ref ro, .int rn])) := by rw [ehv1]; exact qs_self
        clear ehv1
        replace fr := fun b o hb n1 n2 => khv1 b o n1 (fr b o hb n1 n2)
        refine lv_if_eq (tgt := 54) hx hb dX8_build_26 (by decide) (fun c26 => ?_) (fun c26 => ?_)
        · replace c26 : 0 = 0 := (nI_eq (a := 0) (b := 0) (by omega) (by omega)).mp c26
          refine lv_iconst (v := nI 0) hx hb dX8_build_54 (by decide) ?_
          have ex : xs_build gr S (nI bb) p1 p2 p3 = (1, S, 0) := by unfold xs_build; rw [if_pos (by simp [ebb, ebk])]
          obtain ⟨m9, f9⟩ := hM.fin0 hY0 (h' := hv1) ⟨hRw.1, hRw.2.1, hRw.2.2.1, faw, fkw, fvw⟩ fr
          exact q_iret C hP hS ⟨by first | (rw [ex]; done) | (rw [ex]; rfl), by rw [ex]; exact hY, by first | exact m9 | (rw [ex]; exact m9), f9⟩ (by omega) dX8_build_55
        · replace c26 : ¬ 0 = 0 := fun zq => c26 ((nI_eq (a := 0) (b := 0) (by omega) (by omega)).mpr zq)
          exfalso; omega
      · refine lv_iload_n hx hb dX8_build_12 rfl (lv_at hl 2 rfl) ?_
        refine lv_iconst (v := 2) hx hb dX8_build_13 (by decide) ?_
        refine lv_icmp_gt (tgt := 21) hx hb dX8_build_14 (by decide) (fun c14 => ?_) (fun c14 => ?_)
        · have ebk : bIn p1 2 = false := bIn_f (fun z => q32_no c14 z.2)
          refine lv_iconst (v := nI 0) hx hb dX8_build_21 (by decide) ?_
          refine lv_iconst (v := nI 1) hx hb dX8_build_22 (by decide) ?_
          refine q_callV (rest := []) C (c_X8_good0 l D cy N0 h y ms mb (ra 28) od pt fi re rc rs so ot cn la ro gr cd ca mv ct fau cs ce rn (nI 1) hY) kX8_good g1249 g1251 rfl gp41 g4 hP hS hY (by first | decide | omega) hl.1 rfl (by decide) (by first | decide | omega) dX8_build_23 (fun q ce E h' H1 locs1 hE => hE.elim) (fun v hh3 H locs hq hP hS => ?_)
          obtain ⟨rfl, rfl⟩ := hq
          replace hP : qP D N0 (qs h y (.inr (8, [.ref ms, .ref mb, .ref (ra 28), .int gr, .int (nI 1), .int ca, .int mv, .ref od, .ref pt, .int ct, .int fau, .ref fi, .ref re, .int cs, .ref rc, .ref rs, .ref so, .ref ot, .ref cn, .ref la, .int ce, .ref ro, .int rn]))) H := hP
          obtain ⟨hv2, ehv2⟩ : ∃ z : qH, z = qs h y (.inr (8, [.ref ms, .ref mb, .ref (ra 28), .int gr, .int (nI 1), .int ca, .int mv, .ref od, .ref pt, .int ct, .int fau, .ref fi, .ref re, .int cs, .ref rc, .ref rs, .ref so, .ref ot, .ref cn, .ref la, .int ce, .ref ro, .int rn])) := ⟨_, rfl⟩
          rw [← ehv2] at hP
          have khv2 : ∀ b o, b ≠ y → h b = some o → hv2 b = some o := by rw [ehv2]; exact fun b o nb hb => (qs_ne nb).trans hb
          replace hms := khv2 _ _ (fun q => by subst q; have := hms.symm.trans hY; first | cases this | simp at this) hms
          replace hmb := khv2 _ _ (fun q => by subst q; have := hmb.symm.trans hY; first | cases this | simp at this) hmb
          replace faw := khv2 _ _ (fun q => by have z9 := faw; rw [q] at z9; have := z9.symm.trans hY; first | cases this | simp at this) faw
          replace fkw := khv2 _ _ (fun q => by have z9 := fkw; rw [q] at z9; have := z9.symm.trans hY; first | cases this | simp at this) fkw
          replace fvw := khv2 _ _ (fun q => by have z9 := fvw; rw [q] at z9; have := z9.symm.trans hY; first | cases this | simp at this) fvw
          replace hY : hv2 y = some (.inr (8, [.ref ms, .ref mb, .ref (ra 28), .int gr, .int (nI 1), .int ca, .int mv, .ref od, .ref pt, .int ct, .int fau, .ref fi, .ref re, .int cs, .ref rc, .ref rs, .ref so, .ref ot, .ref cn, .ref la, .int ce, .ref ro, .int rn])) := by rw [ehv2]; exact qs_self
          clear ehv2
          replace fr := fun b o hb n1 n2 => khv2 b o n1 (fr b o hb n1 n2)
          refine lv_if_eq (tgt := 54) hx hb dX8_build_26 (by decide) (fun c26 => ?_) (fun c26 => ?_)
          · replace c26 : 0 = 0 := (nI_eq (a := 0) (b := 0) (by omega) (by omega)).mp c26
            refine lv_iconst (v := nI 0) hx hb dX8_build_54 (by decide) ?_
            have ex : xs_build gr S (nI bb) p1 p2 p3 = (1, S, 0) := by unfold xs_build; rw [if_pos (by simp [ebb, ebk])]
            obtain ⟨m9, f9⟩ := hM.fin0 hY0 (h' := hv2) ⟨hRw.1, hRw.2.1, hRw.2.2.1, faw, fkw, fvw⟩ fr
            exact q_iret C hP hS ⟨by first | (rw [ex]; done) | (rw [ex]; rfl), by rw [ex]; exact hY, by first | exact m9 | (rw [ex]; exact m9), f9⟩ (by omega) dX8_build_55
          · replace c26 : ¬ 0 = 0 := fun zq => c26 ((nI_eq (a := 0) (b := 0) (by omega) (by omega)).mpr zq)
            exfalso; omega
        · have ebk : bIn p1 2 = true := bIn_t ⟨c9, q32_not c14⟩
          obtain ⟨wq, hwq, rfl⟩ := nI_of2 (M := 2) (n := 2) (by decide) c9 (q32_not c14)
          have ecw : (nI wq).toNatClampNeg = wq := nI_clamp (by omega)
          rcases (show wq = 0 ∨ wq = 1 ∨ wq = 2 by omega) with rfl | rfl | rfl
          · refine lv_iconst (v := nI 1) hx hb dX8_build_17 (by decide) ?_
            refine lv_goto (tgt := 22) hx hb dX8_build_18 (by decide) ?_
            refine lv_iconst (v := nI 1) hx hb dX8_build_22 (by decide) ?_
            refine q_callV (rest := []) C (c_X8_good1 l D cy N0 h y ms mb (ra 28) od pt fi re rc rs so ot cn la ro gr cd ca mv ct fau cs ce rn (nI 1) hY) kX8_good g1249 g1251 rfl gp41 g4 hP hS hY (by first | decide | omega) hl.1 rfl (by decide) (by first | decide | omega) dX8_build_23 (fun q ce E h' H1 locs1 hE => hE.elim) (fun v hh4 H locs hq hP hS => ?_)
            obtain ⟨rfl, rfl⟩ := hq
            replace hP : qP D N0 (qs h y (.inr (8, [.ref ms, .ref mb, .ref (ra 28), .int gr, .int 0, .int ca, .int mv, .ref od, .ref pt, .int ct, .int fau, .ref fi, .ref re, .int cs, .ref rc, .ref rs, .ref so, .ref ot, .ref cn, .ref la, .int ce, .ref ro, .int rn]))) H := hP
            obtain ⟨hv3, ehv3⟩ : ∃ z : qH, z = qs h y (.inr (8, [.ref ms, .ref mb, .ref (ra 28), .int gr, .int 0, .int ca, .int mv, .ref od, .ref pt, .int ct, .int fau, .ref fi, .ref re, .int cs, .ref rc, .ref rs, .ref so, .ref ot, .ref cn, .ref la, .int ce, .ref ro, .int rn])) := ⟨_, rfl⟩
            rw [← ehv3] at hP
            have khv3 : ∀ b o, b ≠ y → h b = some o → hv3 b = some o := by rw [ehv3]; exact fun b o nb hb => (qs_ne nb).trans hb
            replace hms := khv3 _ _ (fun q => by subst q; have := hms.symm.trans hY; first | cases this | simp at this) hms
            replace hmb := khv3 _ _ (fun q => by subst q; have := hmb.symm.trans hY; first | cases this | simp at this) hmb
            replace faw := khv3 _ _ (fun q => by have z9 := faw; rw [q] at z9; have := z9.symm.trans hY; first | cases this | simp at this) faw
            replace fkw := khv3 _ _ (fun q => by have z9 := fkw; rw [q] at z9; have := z9.symm.trans hY; first | cases this | simp at this) fkw
            replace fvw := khv3 _ _ (fun q => by have z9 := fvw; rw [q] at z9; have := z9.symm.trans hY; first | cases this | simp at this) fvw
            replace hY : hv3 y = some (.inr (8, [.ref ms, .ref mb, .ref (ra 28), .int gr, .int 0, .int ca, .int mv, .ref od, .ref pt, .int ct, .int fau, .ref fi, .ref re, .int cs, .ref rc, .ref rs, .ref so, .ref ot, .ref cn, .ref la, .int ce, .ref ro, .int rn])) := by rw [ehv3]; exact qs_self
            clear ehv3
            replace fr := fun b o hb n1 n2 => khv3 b o n1 (fr b o hb n1 n2)
            refine lv_if_eq (tgt := 54) hx hb dX8_build_26 (by decide) (fun c26 => ?_) (fun c26 => ?_)
            · replace c26 : 1 = 0 := (nI_eq (a := 1) (b := 0) (by omega) (by omega)).mp c26
              exfalso; omega
            · replace c26 : ¬ 1 = 0 := fun zq => c26 ((nI_eq (a := 1) (b := 0) (by omega) (by omega)).mpr zq)
              refine lv_aload_n hx hb dX8_build_29 rfl (lv_at hl 0 rfl) ?_
              refine lv_aload_n hx hb dX8_build_30 rfl (lv_at hl 0 rfl) ?_
              refine q_get C hP hY rfl inX8 1 (by decide) g1168 rfl dX8_build_31 ?_
              refine lv_iload_n hx hb dX8_build_34 rfl (lv_at hl 1 rfl) ?_
              refine q_aaldR C hP hmb rfl (by omega) (by omega) rfl dX8_build_35 ?_
              obtain ⟨nbb, rwbb, Fbb, Gbb, hRbb, hnbb, hLbb, hKbb⟩ := hrs (24 + bb) (by omega)
              have apbb := hRbb.apart hRw (hmd.two (i := (24 + bb)) (j := 28) (by omega) (by omega) (by omega))
              replace hRbb := hRbb.keep2 (fun b o hb ho => fr b o ho (hRbb.ney hY0 hb) (hb.elim (fun q => q ▸ apbb.1) (fun hb => hb.elim (fun q => q ▸ apbb.2.1) (fun q => q ▸ apbb.2.2))))
              have fabb := hRbb.2.2.2.1
              have fkbb := hRbb.2.2.2.2.1
              have fvbb := hRbb.2.2.2.2.2
              unfold qRb at fabb
              unfold qJr at fkbb fvbb
              refine q_get C hP fabb rfl inX7 2 (by decide) g1142 rfl dX8_build_36 ?_
              refine lv_if_lt (tgt := 46) hx hb dX8_build_39 (by decide) (fun c39 => ?_) (fun c39 => ?_)
              · refine lv_iconst (v := nI 0) hx hb dX8_build_46 (by decide) ?_
                refine lv_iconst (v := nI 2) hx hb dX8_build_47 (by decide) ?_
                refine q_callV (rest := []) C (c_X8_good0 l D cy N0 hv3 y ms mb (ra 28) od pt fi re rc rs so ot cn la ro gr 0 ca mv ct fau cs ce rn (nI 2) hY) kX8_good g1249 g1251 rfl gp41 g4 hP hS hY (by first | decide | omega) hl.1 rfl (by decide) (by first | decide | omega) dX8_build_48 (fun q ce E h' H1 locs1 hE => hE.elim) (fun v hh5 H locs hq hP hS => ?_)
                obtain ⟨rfl, rfl⟩ := hq
                replace hP : qP D N0 (qs hv3 y (.inr (8, [.ref ms, .ref mb, .ref (ra 28), .int gr, .int (nI 2), .int ca, .int mv, .ref od, .ref pt, .int ct, .int fau, .ref fi, .ref re, .int cs, .ref rc, .ref rs, .ref so, .ref ot, .ref cn, .ref la, .int ce, .ref ro, .int rn]))) H := hP
                obtain ⟨hv4, ehv4⟩ : ∃ z : qH, z = qs hv3 y (.inr (8, [.ref ms, .ref mb, .ref (ra 28), .int gr, .int (nI 2), .int ca, .int mv, .ref od, .ref pt, .int ct, .int fau, .ref fi, .ref re, .int cs, .ref rc, .ref rs, .ref so, .ref ot, .ref cn, .ref la, .int ce, .ref ro, .int rn])) := ⟨_, rfl⟩
                rw [← ehv4] at hP
                have khv4 : ∀ b o, b ≠ y → hv3 b = some o → hv4 b = some o := by rw [ehv4]; exact fun b o nb hb => (qs_ne nb).trans hb
                replace hms := khv4 _ _ (fun q => by subst q; have := hms.symm.trans hY; first | cases this | simp at this) hms
                replace hmb := khv4 _ _ (fun q => by subst q; have := hmb.symm.trans hY; first | cases this | simp at this) hmb
                replace faw := khv4 _ _ (fun q => by have z9 := faw; rw [q] at z9; have := z9.symm.trans hY; first | cases this | simp at this) faw
                replace fkw := khv4 _ _ (fun q => by have z9 := fkw; rw [q] at z9; have := z9.symm.trans hY; first | cases this | simp at this) fkw
                replace fvw := khv4 _ _ (fun q => by have z9 := fvw; rw [q] at z9; have := z9.symm.trans hY; first | cases this | simp at this) fvw
                replace fabb := khv4 _ _ (fun q => by have z9 := fabb; rw [q] at z9; have := z9.symm.trans hY; first | cases this | simp at this) fabb
                replace fkbb := khv4 _ _ (fun q => by have z9 := fkbb; rw [q] at z9; have := z9.symm.trans hY; first | cases this | simp at this) fkbb
                replace fvbb := khv4 _ _ (fun q => by have z9 := fvbb; rw [q] at z9; have := z9.symm.trans hY; first | cases this | simp at this) fvbb
                replace hY : hv4 y = some (.inr (8, [.ref ms, .ref mb, .ref (ra 28), .int gr, .int (nI 2), .int ca, .int mv, .ref od, .ref pt, .int ct, .int fau, .ref fi, .ref re, .int cs, .ref rc, .ref rs, .ref so, .ref ot, .ref cn, .ref la, .int ce, .ref ro, .int rn])) := by rw [ehv4]; exact qs_self
                clear ehv4
                replace fr := fun b o hb n1 n2 => khv4 b o n1 (fr b o hb n1 n2)
                refine lv_if_ne (tgt := 56) hx hb dX8_build_51 (by decide) (fun c51 => ?_) (fun c51 => ?_)
                · replace c51 : ¬ 0 = 0 := fun zq => c51 ((nI_eq (a := 0) (b := 0) (by omega) (by omega)).mpr zq)
                  exfalso; omega
                · replace c51 : 0 = 0 := (nI_eq (a := 0) (b := 0) (by omega) (by omega)).mp c51
                  refine lv_iconst (v := nI 0) hx hb dX8_build_54 (by decide) ?_
                  have ex : xs_build gr S (nI bb) (nI 0) p2 p3 = (2, S, 0) := by unfold xs_build; rw [if_neg (by simp [ebb, ebk]), ecb, if_pos c39]
                  obtain ⟨m9, f9⟩ := hM.fin0 hY0 (h' := hv4) ⟨hRw.1, hRw.2.1, hRw.2.2.1, faw, fkw, fvw⟩ fr
                  exact q_iret C hP hS ⟨by first | (rw [ex]; done) | (rw [ex]; rfl), by rw [ex]; exact hY, by first | exact m9 | (rw [ex]; exact m9), f9⟩ (by omega) dX8_build_55
              · refine lv_iconst (v := nI 1) hx hb dX8_build_42 (by decide) ?_
                refine lv_goto (tgt := 47) hx hb dX8_build_43 (by decide) ?_
                refine lv_iconst (v := nI 2) hx hb dX8_build_47 (by decide) ?_
                refine q_callV (rest := []) C (c_X8_good1 l D cy N0 hv3 y ms mb (ra 28) od pt fi re rc rs so ot cn la ro gr 0 ca mv ct fau cs ce rn (nI 2) hY) kX8_good g1249 g1251 rfl gp41 g4 hP hS hY (by first | decide | omega) hl.1 rfl (by decide) (by first | decide | omega) dX8_build_48 (fun q ce E h' H1 locs1 hE => hE.elim) (fun v hh6 H locs hq hP hS => ?_)
                obtain ⟨rfl, rfl⟩ := hq
                replace hP : qP D N0 (qs hv3 y (.inr (8, [.ref ms, .ref mb, .ref (ra 28), .int gr, .int 0, .int ca, .int mv, .ref od, .ref pt, .int ct, .int fau, .ref fi, .ref re, .int cs, .ref rc, .ref rs, .ref so, .ref ot, .ref cn, .ref la, .int ce, .ref ro, .int rn]))) H := hP
                obtain ⟨hv5, ehv5⟩ : ∃ z : qH, z = qs hv3 y (.inr (8, [.ref ms, .ref mb, .ref (ra 28), .int gr, .int 0, .int ca, .int mv, .ref od, .ref pt, .int ct, .int fau, .ref fi, .ref re, .int cs, .ref rc, .ref rs, .ref so, .ref ot, .ref cn, .ref la, .int ce, .ref ro, .int rn])) := ⟨_, rfl⟩
                rw [← ehv5] at hP
                have khv5 : ∀ b o, b ≠ y → hv3 b = some o → hv5 b = some o := by rw [ehv5]; exact fun b o nb hb => (qs_ne nb).trans hb
                replace hms := khv5 _ _ (fun q => by subst q; have := hms.symm.trans hY; first | cases this | simp at this) hms
                replace hmb := khv5 _ _ (fun q => by subst q; have := hmb.symm.trans hY; first | cases this | simp at this) hmb
                replace faw := khv5 _ _ (fun q => by have z9 := faw; rw [q] at z9; have := z9.symm.trans hY; first | cases this | simp at this) faw
                replace fkw := khv5 _ _ (fun q => by have z9 := fkw; rw [q] at z9; have := z9.symm.trans hY; first | cases this | simp at this) fkw
                replace fvw := khv5 _ _ (fun q => by have z9 := fvw; rw [q] at z9; have := z9.symm.trans hY; first | cases this | simp at this) fvw
                replace fabb := khv5 _ _ (fun q => by have z9 := fabb; rw [q] at z9; have := z9.symm.trans hY; first | cases this | simp at this) fabb
                replace fkbb := khv5 _ _ (fun q => by have z9 := fkbb; rw [q] at z9; have := z9.symm.trans hY; first | cases this | simp at this) fkbb
                replace fvbb := khv5 _ _ (fun q => by have z9 := fvbb; rw [q] at z9; have := z9.symm.trans hY; first | cases this | simp at this) fvbb
                replace hY : hv5 y = some (.inr (8, [.ref ms, .ref mb, .ref (ra 28), .int gr, .int 0, .int ca, .int mv, .ref od, .ref pt, .int ct, .int fau, .ref fi, .ref re, .int cs, .ref rc, .ref rs, .ref so, .ref ot, .ref cn, .ref la, .int ce, .ref ro, .int rn])) := by rw [ehv5]; exact qs_self
                clear ehv5
                replace fr := fun b o hb n1 n2 => khv5 b o n1 (fr b o hb n1 n2)
                refine lv_if_ne (tgt := 56) hx hb dX8_build_51 (by decide) (fun c51 => ?_) (fun c51 => ?_)
                · replace c51 : ¬ 1 = 0 := fun zq => c51 ((nI_eq (a := 1) (b := 0) (by omega) (by omega)).mpr zq)
                  refine lv_aload_n hx hb dX8_build_56 rfl (lv_at hl 0 rfl) ?_
                  refine q_get C hP hY rfl inX8 1 (by decide) g1168 rfl dX8_build_57 ?_
                  refine lv_iload_n hx hb dX8_build_60 rfl (lv_at hl 1 rfl) ?_
                  refine q_aaldR C hP hmb rfl (by omega) (by omega) rfl dX8_build_61 ?_
                  have awbb : qOf (ra (24 + bb)) (rk (24 + bb)) (rv (24 + bb)) (ra 28) ∧ qOf (ra (24 + bb)) (rk (24 + bb)) (rv (24 + bb)) (rk 28) ∧ qOf (ra (24 + bb)) (rk (24 + bb)) (rv (24 + bb)) (rv 28) := ⟨⟨Ne.symm apbb.1.1, Ne.symm apbb.2.1.1, Ne.symm apbb.2.2.1⟩, ⟨Ne.symm apbb.1.2.1, Ne.symm apbb.2.1.2.1, Ne.symm apbb.2.2.2.1⟩, ⟨Ne.symm apbb.1.2.2, Ne.symm apbb.2.1.2.2, Ne.symm apbb.2.2.2.2⟩⟩
                  refine lv_astore (lv' := [(7, .ref (ra (24 + bb))), (0, .ref y), (1, .int (nI bb)), (2, .int (nI 0)), (3, .long p2), (5, .long p3)]) hx hb dX8_build_62 hl (by decide) rfl (fun ls hl => ?_)
                  refine lv_aload hx hb dX8_build_64 (lv_at hl 0 rfl) ?_
                  refine q_get C hP fabb rfl inX7 2 (by decide) g1142 rfl dX8_build_66 ?_
                  refine lv_if_ne (tgt := 218) hx hb dX8_build_69 (by decide) (fun c69 => ?_) (fun c69 => ?_)
                  · refine lv_aload_n hx hb dX8_build_218 rfl (lv_at hl 1 rfl) ?_
                    refine lv_iload_n hx hb dX8_build_219 rfl (lv_at hl 3 rfl) ?_
                    refine lv_iconst (v := nI 1) hx hb dX8_build_220 (by decide) ?_
                    refine lv_icmp_eq (tgt := 228) hx hb dX8_build_221 (by decide) (fun c221 => ?_) (fun c221 => ?_)
                    · replace c221 : 0 = 1 := (nI_eq (a := 0) (b := 1) (by omega) (by omega)).mp c221
                      exfalso; omega
                    · replace c221 : ¬ 0 = 1 := fun zq => c221 ((nI_eq (a := 0) (b := 1) (by omega) (by omega)).mpr zq)
                      refine lv_iconst (v := nI 1) hx hb dX8_build_224 (by decide) ?_
                      refine lv_goto (tgt := 229) hx hb dX8_build_225 (by decide) ?_
                      refine lv_iconst (v := nI 3) hx hb dX8_build_229 (by decide) ?_
                      refine q_callV (rest := []) C (c_X8_good1 l D cy N0 hv5 y ms mb (ra 28) od pt fi re rc rs so ot cn la ro gr 0 ca mv ct fau cs ce rn (nI 3) hY) kX8_good g1249 g1251 rfl gp41 g4 hP hS hY (by first | decide | omega) hl.1 rfl (by decide) (by first | decide | omega) dX8_build_230 (fun q ce E h' H1 locs1 hE => hE.elim) (fun v hh7 H locs hq hP hS => ?_)
                      obtain ⟨rfl, rfl⟩ := hq
                      replace hP : qP D N0 (qs hv5 y (.inr (8, [.ref ms, .ref mb, .ref (ra 28), .int gr, .int 0, .int ca, .int mv, .ref od, .ref pt, .int ct, .int fau, .ref fi, .ref re, .int cs, .ref rc, .ref rs, .ref so, .ref ot, .ref cn, .ref la, .int ce, .ref ro, .int rn]))) H := hP
                      obtain ⟨hv6, ehv6⟩ : ∃ z : qH, z = qs hv5 y (.inr (8, [.ref ms, .ref mb, .ref (ra 28), .int gr, .int 0, .int ca, .int mv, .ref od, .ref pt, .int ct, .int fau, .ref fi, .ref re, .int cs, .ref rc, .ref rs, .ref so, .ref ot, .ref cn, .ref la, .int ce, .ref ro, .int rn])) := ⟨_, rfl⟩
                      rw [← ehv6] at hP
                      have khv6 : ∀ b o, b ≠ y → hv5 b = some o → hv6 b = some o := by rw [ehv6]; exact fun b o nb hb => (qs_ne nb).trans hb
                      replace hms := khv6 _ _ (fun q => by subst q; have := hms.symm.trans hY; first | cases this | simp at this) hms
                      replace hmb := khv6 _ _ (fun q => by subst q; have := hmb.symm.trans hY; first | cases this | simp at this) hmb
                      replace faw := khv6 _ _ (fun q => by have z9 := faw; rw [q] at z9; have := z9.symm.trans hY; first | cases this | simp at this) faw
                      replace fkw := khv6 _ _ (fun q => by have z9 := fkw; rw [q] at z9; have := z9.symm.trans hY; first | cases this | simp at this) fkw
                      replace fvw := khv6 _ _ (fun q => by have z9 := fvw; rw [q] at z9; have := z9.symm.trans hY; first | cases this | simp at this) fvw
                      replace fabb := khv6 _ _ (fun q => by have z9 := fabb; rw [q] at z9; have := z9.symm.trans hY; first | cases this | simp at this) fabb
                      replace fkbb := khv6 _ _ (fun q => by have z9 := fkbb; rw [q] at z9; have := z9.symm.trans hY; first | cases this | simp at this) fkbb
                      replace fvbb := khv6 _ _ (fun q => by have z9 := fvbb; rw [q] at z9; have := z9.symm.trans hY; first | cases this | simp at this) fvbb
                      replace hY : hv6 y = some (.inr (8, [.ref ms, .ref mb, .ref (ra 28), .int gr, .int 0, .int ca, .int mv, .ref od, .ref pt, .int ct, .int fau, .ref fi, .ref re, .int cs, .ref rc, .ref rs, .ref so, .ref ot, .ref cn, .ref la, .int ce, .ref ro, .int rn])) := by rw [ehv6]; exact qs_self
                      clear ehv6
                      replace fr := fun b o hb n1 n2 => khv6 b o n1 (fr b o hb n1 n2)
                      refine lv_if_ne (tgt := 238) hx hb dX8_build_233 (by decide) (fun c233 => ?_) (fun c233 => ?_)
                      · replace c233 : ¬ 1 = 0 := fun zq => c233 ((nI_eq (a := 1) (b := 0) (by omega) (by omega)).mpr zq)
                        have elen : (S (24 + bb)).2.1.length = nbb := by rw [hLbb, qLs_len]
                        refine lv_aload hx hb dX8_build_238 (lv_at hl 0 rfl) ?_
                        refine lv_lload_n hx hb dX8_build_240 rfl (lv_at hl 4 rfl) ?_
                        refine q_callS (rest := []) C (c_X8_find l D cy N0 hv6 (ra (24 + bb)) (rk (24 + bb)) (rv (24 + bb)) ((S (24 + bb)).1) (nI (S (24 + bb)).2.2.1) (nI (S (24 + bb)).2.2.2) rwbb nbb Fbb Gbb p2 ⟨hRbb.1, hRbb.2.1, hRbb.2.2.1, fabb, fkbb, fvbb⟩ (by omega)) kX8_find g1279 g1280 hP hS (by first | decide | omega) hl.1 rfl (by decide) (by first | decide | omega) dX8_build_241 (fun q ce E h' H1 locs1 hE => hE.elim) (fun v hh8 H locs hq hP hS => ?_)
                        obtain ⟨rfl, hq⟩ := hq
                        rcases hq with ⟨j8, rfl, hj8, e8, m8⟩ | ⟨rfl, m8⟩
                        · have hx8 := xHas_t (kd := (S (24 + bb)).1) (g := Gbb) hj8 e8
                          rw [← hLbb] at hx8
                          refine lv_istore (lv' := [(8, .int (nI j8)), (7, .ref (ra (24 + bb))), (0, .ref y), (1, .int (nI bb)), (2, .int (nI 0)), (3, .long p2), (5, .long p3)]) hx hb dX8_build_244 hl (by decide) rfl (fun ls hl => ?_)
                          refine lv_iload_n hx hb dX8_build_246 rfl (lv_at hl 4 rfl) ?_
                          refine lv_if_ne (tgt := 303) hx hb dX8_build_247 (by decide) (fun c247 => ?_) (fun c247 => ?_)
                          · replace c247 : ¬ 0 = 0 := fun zq => c247 ((nI_eq (a := 0) (b := 0) (by omega) (by omega)).mpr zq)
                            exfalso; omega
                          · replace c247 : 0 = 0 := (nI_eq (a := 0) (b := 0) (by omega) (by omega)).mp c247
                            refine lv_aload_n hx hb dX8_build_250 rfl (lv_at hl 2 rfl) ?_
                            refine lv_iload hx hb dX8_build_251 (lv_at hl 0 rfl) ?_
                            refine lv_if_ge (tgt := 277) hx hb dX8_build_253 (by decide) (fun c253 => ?_) (fun c253 => ?_)
                            · replace c253 : 0 ≤ j8 := (nI_leI (a := 0) (b := j8) (by omega) (by omega)).mp c253
                              refine lv_iconst (v := nI 1) hx hb dX8_build_277 (by decide) ?_
                              refine lv_goto (tgt := 282) hx hb dX8_build_278 (by decide) ?_
                              refine lv_iconst (v := nI 5) hx hb dX8_build_282 (by decide) ?_
                              refine q_callV (rest := []) C (c_X8_good1 l D cy N0 hv6 y ms mb (ra 28) od pt fi re rc rs so ot cn la ro gr 0 ca mv ct fau cs ce rn (nI 5) hY) kX8_good g1249 g1251 rfl gp41 g4 hP hS hY (by first | decide | omega) hl.1 rfl (by decide) (by first | decide | omega) dX8_build_283 (fun q ce E h' H1 locs1 hE => hE.elim) (fun v hh9 H locs hq hP hS => ?_)
                              obtain ⟨rfl, rfl⟩ := hq
                              replace hP : qP D N0 (qs hv6 y (.inr (8, [.ref ms, .ref mb, .ref (ra 28), .int gr, .int 0, .int ca, .int mv, .ref od, .ref pt, .int ct, .int fau, .ref fi, .ref re, .int cs, .ref rc, .ref rs, .ref so, .ref ot, .ref cn, .ref la, .int ce, .ref ro, .int rn]))) H := hP
                              obtain ⟨hv7, ehv7⟩ : ∃ z : qH, z = qs hv6 y (.inr (8, [.ref ms, .ref mb, .ref (ra 28), .int gr, .int 0, .int ca, .int mv, .ref od, .ref pt, .int ct, .int fau, .ref fi, .ref re, .int cs, .ref rc, .ref rs, .ref so, .ref ot, .ref cn, .ref la, .int ce, .ref ro, .int rn])) := ⟨_, rfl⟩
                              rw [← ehv7] at hP
                              have khv7 : ∀ b o, b ≠ y → hv6 b = some o → hv7 b = some o := by rw [ehv7]; exact fun b o nb hb => (qs_ne nb).trans hb
                              replace hms := khv7 _ _ (fun q => by subst q; have := hms.symm.trans hY; first | cases this | simp at this) hms
                              replace hmb := khv7 _ _ (fun q => by subst q; have := hmb.symm.trans hY; first | cases this | simp at this) hmb
                              replace faw := khv7 _ _ (fun q => by have z9 := faw; rw [q] at z9; have := z9.symm.trans hY; first | cases this | simp at this) faw
                              replace fkw := khv7 _ _ (fun q => by have z9 := fkw; rw [q] at z9; have := z9.symm.trans hY; first | cases this | simp at this) fkw
                              replace fvw := khv7 _ _ (fun q => by have z9 := fvw; rw [q] at z9; have := z9.symm.trans hY; first | cases this | simp at this) fvw
                              replace fabb := khv7 _ _ (fun q => by have z9 := fabb; rw [q] at z9; have := z9.symm.trans hY; first | cases this | simp at this) fabb
                              replace fkbb := khv7 _ _ (fun q => by have z9 := fkbb; rw [q] at z9; have := z9.symm.trans hY; first | cases this | simp at this) fkbb
                              replace fvbb := khv7 _ _ (fun q => by have z9 := fvbb; rw [q] at z9; have := z9.symm.trans hY; first | cases this | simp at this) fvbb
                              replace hY : hv7 y = some (.inr (8, [.ref ms, .ref mb, .ref (ra 28), .int gr, .int 0, .int ca, .int mv, .ref od, .ref pt, .int ct, .int fau, .ref fi, .ref re, .int cs, .ref rc, .ref rs, .ref so, .ref ot, .ref cn, .ref la, .int ce, .ref ro, .int rn])) := by rw [ehv7]; exact qs_self
                              clear ehv7
                              replace fr := fun b o hb n1 n2 => khv7 b o n1 (fr b o hb n1 n2)
                              refine lv_if_ne (tgt := 291) hx hb dX8_build_286 (by decide) (fun c286 => ?_) (fun c286 => ?_)
                              · replace c286 : ¬ 1 = 0 := fun zq => c286 ((nI_eq (a := 1) (b := 0) (by omega) (by omega)).mpr zq)
                                have lw := hLbb.symm
                                replace fr := fun b o hb n1 n2 (n3 : qOf (ra (24 + bb)) (rk (24 + bb)) (rv (24 + bb)) b) => fr b o hb n1 n2
                                refine lv_aload hx hb dX8_build_291 (lv_at hl 1 rfl) ?_
                                refine lv_lload_n hx hb dX8_build_293 rfl (lv_at hl 5 rfl) ?_
                                refine lv_lload hx hb dX8_build_294 (lv_at hl 6 rfl) ?_
                                refine lv_iconst (v := nI 0) hx hb dX8_build_296 (by decide) ?_
                                refine q_callS (rest := []) C (c_X8_put l D cy N0 hv7 (ra (24 + bb)) (rk (24 + bb)) (rv (24 + bb)) ((S (24 + bb)).1) (nI (S (24 + bb)).2.2.1) (nI (S (24 + bb)).2.2.2) rwbb nbb Fbb Gbb p2 p3 0 ⟨hRbb.1, hRbb.2.1, hRbb.2.2.1, fabb, fkbb, fvbb⟩ (by omega) (by decide)) kX8_put g1276 g1277 hP hS (by first | decide | omega) hl.1 rfl (by decide) (by first | decide | omega) dX8_build_297 (fun q ce E h' H1 locs1 hE => hE.elim) (fun v hh10 H locs hq hP hS => ?_)
                                obtain ⟨rfl, hq⟩ := hq
                                rcases hq with ⟨hz9, j9, hj9, e9, m9, rfl⟩ | ⟨hno9, p9, hp9, hs9, ht9, rfl⟩
                                · obtain ⟨hv8, ehv8⟩ : ∃ z : qH, z = qRh cy hv7 (ra (24 + bb)) (rk (24 + bb)) (rv (24 + bb)) ((S (24 + bb)).1) (nI nbb) (nI (S (24 + bb)).2.2.1) (nI (S (24 + bb)).2.2.2) rwbb Fbb (vp_updL Gbb j9 p3) := ⟨_, rfl⟩
                                  rw [← ehv8] at hP
                                  have r9 : qRw cy hv8 (ra (24 + bb)) (rk (24 + bb)) (rv (24 + bb)) ((S (24 + bb)).1) (nI nbb) (nI (S (24 + bb)).2.2.1) (nI (S (24 + bb)).2.2.2) rwbb Fbb (vp_updL Gbb j9 p3) := by rw [ehv8]; exact qRw.new (cy := cy) (h := hv7) (kd := (S (24 + bb)).1) (n := (nI nbb)) (sm := (nI (S (24 + bb)).2.2.1)) (dp := (nI (S (24 + bb)).2.2.2)) (rw := rwbb) (f := Fbb) (g := Gbb) ⟨hRbb.1, hRbb.2.1, hRbb.2.2.1, fabb, fkbb, fvbb⟩
                                  have khv8 : ∀ b o, qOf (ra (24 + bb)) (rk (24 + bb)) (rv (24 + bb)) b → hv7 b = some o → hv8 b = some o := by rw [ehv8]; exact fun b o q hb => (qRh_o q.1 q.2.1 q.2.2).trans hb
                                  replace hY := khv8 _ _ ⟨fun q => by rw [q] at hY; have := fabb.symm.trans hY; first | cases this | simp at this, fun q => by rw [q] at hY; have := fkbb.symm.trans hY; first | cases this | simp at this, fun q => by rw [q] at hY; have := fvbb.symm.trans hY; first | cases this | simp at this⟩ hY
                                  replace hms := khv8 _ _ ⟨fun q => by rw [q] at hms; have := fabb.symm.trans hms; first | cases this | simp at this, fun q => by rw [q] at hms; have := fkbb.symm.trans hms; first | cases this | simp at this, fun q => by rw [q] at hms; have := fvbb.symm.trans hms; first | cases this | simp at this⟩ hms
                                  replace hmb := khv8 _ _ ⟨fun q => by rw [q] at hmb; have := fabb.symm.trans hmb; first | cases this | simp at this, fun q => by rw [q] at hmb; have := fkbb.symm.trans hmb; first | cases this | simp at this, fun q => by rw [q] at hmb; have := fvbb.symm.trans hmb; first | cases this | simp at this⟩ hmb
                                  replace faw := khv8 _ _ awbb.1 faw
                                  replace fkw := khv8 _ _ awbb.2.1 fkw
                                  replace fvw := khv8 _ _ awbb.2.2 fvw
                                  replace fr := fun b o hb n1 n2 n3 => khv8 b o n3 (fr b o hb n1 n2 n3)
                                  clear fabb fkbb fvbb
                                  have fabb := r9.2.2.2.1
                                  have fkbb := r9.2.2.2.2.1
                                  have fvbb := r9.2.2.2.2.2
                                  unfold qRb at fabb
                                  unfold qJr at fkbb fvbb
                                  clear r9 ehv8
                                  replace lw : qLs ((S (24 + bb)).1) Fbb (vp_updL Gbb j9 p3) nbb = xPut ((S (24 + bb)).1) false ((S (24 + bb)).2.1) p2 (xV ((S (24 + bb)).1) p3) := by rw [qLs_re (lw ▸ (hI (24 + bb) (by omega)).2.1 (hkd bb (by omega) c39 c69)) hj9 e9, lw, xPut, if_pos ⟨rfl, by rw [← lw]; exact xHas_t hj9 e9⟩]
                                  refine lv_goto (tgt := 315) hx hb dX8_build_300 (by decide) ?_
                                  refine lv_aload hx hb dX8_build_315 (lv_at hl 1 rfl) ?_
                                  refine q_get C hP fabb rfl inX7 3 (by decide) g1143 rfl dX8_build_317 ?_
                                  have el : (xPut ((S (24 + bb)).1) false ((S (24 + bb)).2.1) p2 (xV ((S (24 + bb)).1) p3)).length = nbb := by rw [← lw, qLs_len]
                                  have ex : xs_build gr S (nI bb) (nI 0) p2 p3 = (0, qU S (24 + bb) ((S (24 + bb)).1, (xPut ((S (24 + bb)).1) false ((S (24 + bb)).2.1) p2 (xV ((S (24 + bb)).1) p3)), (S (24 + bb)).2.2), nI (nbb)) := by unfold xs_build; rw [if_neg (by simp [ebb, ebk]), ecb, if_neg c39, ecw, if_neg c69]; unfold xr_buildH; rw [if_neg (by decide), if_pos rfl, if_pos (by first | exact Or.inl hx8 | exact Or.inr ⟨by omega, cr⟩), el]
                                  obtain ⟨m9, f9⟩ := hM.fin hY0 (i := (24 + bb)) (by omega) (s := ((S (24 + bb)).1, (xPut ((S (24 + bb)).1) false ((S (24 + bb)).2.1) p2 (xV ((S (24 + bb)).1) p3)), (S (24 + bb)).2.2)) ⟨nbb, _, _, _, ⟨hRbb.1, hRbb.2.1, hRbb.2.2.1, fabb, fkbb, fvbb⟩, by omega, lw.symm, by first | exact Or.inl rfl | exact xRo.mv (by omega) hKj | exact xRo.bl (by omega) hKbb⟩ ⟨hRw.1, hRw.2.1, hRw.2.2.1, faw, fkw, fvw⟩ fr
                                  exact q_iret C hP hS ⟨by first | (rw [ex]; done) | (rw [ex]; rfl), by rw [ex]; exact hY, by rw [ex]; exact m9, f9⟩ (by omega) dX8_build_320
                                · exact absurd e8 (hno9.resolve_right (by decide) j8 hj8)
                              · replace c286 : 1 = 0 := (nI_eq (a := 1) (b := 0) (by omega) (by omega)).mp c286
                                exfalso; omega
                            · replace c253 : ¬ 0 ≤ j8 := fun zq => c253 ((nI_leI (a := 0) (b := j8) (by omega) (by omega)).mpr zq)
                              exfalso; omega
                        · have hx8 := xHas_f (kd := (S (24 + bb)).1) (g := Gbb) m8
                          rw [← hLbb] at hx8
                          refine lv_istore (lv' := [(8, .int (-1)), (7, .ref (ra (24 + bb))), (0, .ref y), (1, .int (nI bb)), (2, .int (nI 0)), (3, .long p2), (5, .long p3)]) hx hb dX8_build_244 hl (by decide) rfl (fun ls hl => ?_)
                          refine lv_iload_n hx hb dX8_build_246 rfl (lv_at hl 4 rfl) ?_
                          refine lv_if_ne (tgt := 303) hx hb dX8_build_247 (by decide) (fun c247 => ?_) (fun c247 => ?_)
                          · replace c247 : ¬ 0 = 0 := fun zq => c247 ((nI_eq (a := 0) (b := 0) (by omega) (by omega)).mpr zq)
                            exfalso; omega
                          · replace c247 : 0 = 0 := (nI_eq (a := 0) (b := 0) (by omega) (by omega)).mp c247
                            refine lv_aload_n hx hb dX8_build_250 rfl (lv_at hl 2 rfl) ?_
                            refine lv_iload hx hb dX8_build_251 (lv_at hl 0 rfl) ?_
                            refine lv_if_ge (tgt := 277) hx hb dX8_build_253 (by decide) (fun c => absurd c (by decide)) (fun _ => ?_)
                            refine lv_aload hx hb dX8_build_256 (lv_at hl 1 rfl) ?_
                            refine q_get C hP fabb rfl inX7 3 (by decide) g1143 rfl dX8_build_258 ?_
                            refine lv_sipush (v := nI 1000) hx hb dX8_build_261 (by decide) ?_
                            refine lv_icmp_ge (tgt := 281) hx hb dX8_build_264 (by decide) (fun c264 => ?_) (fun c264 => ?_)
                            · replace c264 : 1000 ≤ nbb := (nI_leI (a := 1000) (b := nbb) (by omega) (by omega)).mp c264
                              refine lv_iconst (v := nI 0) hx hb dX8_build_281 (by decide) ?_
                              refine lv_iconst (v := nI 5) hx hb dX8_build_282 (by decide) ?_
                              refine q_callV (rest := []) C (c_X8_good0 l D cy N0 hv6 y ms mb (ra 28) od pt fi re rc rs so ot cn la ro gr 0 ca mv ct fau cs ce rn (nI 5) hY) kX8_good g1249 g1251 rfl gp41 g4 hP hS hY (by first | decide | omega) hl.1 rfl (by decide) (by first | decide | omega) dX8_build_283 (fun q ce E h' H1 locs1 hE => hE.elim) (fun v hh11 H locs hq hP hS => ?_)
                              obtain ⟨rfl, rfl⟩ := hq
                              replace hP : qP D N0 (qs hv6 y (.inr (8, [.ref ms, .ref mb, .ref (ra 28), .int gr, .int (nI 5), .int ca, .int mv, .ref od, .ref pt, .int ct, .int fau, .ref fi, .ref re, .int cs, .ref rc, .ref rs, .ref so, .ref ot, .ref cn, .ref la, .int ce, .ref ro, .int rn]))) H := hP
                              obtain ⟨hv9, ehv9⟩ : ∃ z : qH, z = qs hv6 y (.inr (8, [.ref ms, .ref mb, .ref (ra 28), .int gr, .int (nI 5), .int ca, .int mv, .ref od, .ref pt, .int ct, .int fau, .ref fi, .ref re, .int cs, .ref rc, .ref rs, .ref so, .ref ot, .ref cn, .ref la, .int ce, .ref ro, .int rn])) := ⟨_, rfl⟩
                              rw [← ehv9] at hP
                              have khv9 : ∀ b o, b ≠ y → hv6 b = some o → hv9 b = some o := by rw [ehv9]; exact fun b o nb hb => (qs_ne nb).trans hb
                              replace hms := khv9 _ _ (fun q => by subst q; have := hms.symm.trans hY; first | cases this | simp at this) hms
                              replace hmb := khv9 _ _ (fun q => by subst q; have := hmb.symm.trans hY; first | cases this | simp at this) hmb
                              replace faw := khv9 _ _ (fun q => by have z9 := faw; rw [q] at z9; have := z9.symm.trans hY; first | cases this | simp at this) faw
                              replace fkw := khv9 _ _ (fun q => by have z9 := fkw; rw [q] at z9; have := z9.symm.trans hY; first | cases this | simp at this) fkw
                              replace fvw := khv9 _ _ (fun q => by have z9 := fvw; rw [q] at z9; have := z9.symm.trans hY; first | cases this | simp at this) fvw
                              replace fabb := khv9 _ _ (fun q => by have z9 := fabb; rw [q] at z9; have := z9.symm.trans hY; first | cases this | simp at this) fabb
                              replace fkbb := khv9 _ _ (fun q => by have z9 := fkbb; rw [q] at z9; have := z9.symm.trans hY; first | cases this | simp at this) fkbb
                              replace fvbb := khv9 _ _ (fun q => by have z9 := fvbb; rw [q] at z9; have := z9.symm.trans hY; first | cases this | simp at this) fvbb
                              replace hY : hv9 y = some (.inr (8, [.ref ms, .ref mb, .ref (ra 28), .int gr, .int (nI 5), .int ca, .int mv, .ref od, .ref pt, .int ct, .int fau, .ref fi, .ref re, .int cs, .ref rc, .ref rs, .ref so, .ref ot, .ref cn, .ref la, .int ce, .ref ro, .int rn])) := by rw [ehv9]; exact qs_self
                              clear ehv9
                              replace fr := fun b o hb n1 n2 => khv9 b o n1 (fr b o hb n1 n2)
                              refine lv_if_ne (tgt := 291) hx hb dX8_build_286 (by decide) (fun c286 => ?_) (fun c286 => ?_)
                              · replace c286 : ¬ 0 = 0 := fun zq => c286 ((nI_eq (a := 0) (b := 0) (by omega) (by omega)).mpr zq)
                                exfalso; omega
                              · replace c286 : 0 = 0 := (nI_eq (a := 0) (b := 0) (by omega) (by omega)).mp c286
                                refine lv_iconst (v := nI 0) hx hb dX8_build_289 (by decide) ?_
                                have ex : xs_build gr S (nI bb) (nI 0) p2 p3 = (5, S, 0) := by unfold xs_build; rw [if_neg (by simp [ebb, ebk]), ecb, if_neg c39, ecw, if_neg c69]; unfold xr_buildH; rw [if_neg (by decide), if_pos rfl, if_neg (fun z => z.elim (fun z => by rw [hx8] at z; cases z) (fun z => by first | omega | exact z.2 cr))]
                                obtain ⟨m9, f9⟩ := hM.fin0 hY0 (h' := hv9) ⟨hRw.1, hRw.2.1, hRw.2.2.1, faw, fkw, fvw⟩ fr
                                exact q_iret C hP hS ⟨by first | (rw [ex]; done) | (rw [ex]; rfl), by rw [ex]; exact hY, by first | exact m9 | (rw [ex]; exact m9), f9⟩ (by omega) dX8_build_290
                            · replace c264 : ¬ 1000 ≤ nbb := fun zq => c264 ((nI_leI (a := 1000) (b := nbb) (by omega) (by omega)).mpr zq)
                              refine lv_aload_n hx hb dX8_build_267 rfl (lv_at hl 2 rfl) ?_
                              refine lv_aload hx hb dX8_build_268 (lv_at hl 1 rfl) ?_
                              refine lv_lload_n hx hb dX8_build_270 rfl (lv_at hl 5 rfl) ?_
                              refine q_callV (rest := [.ref y]) C (c_X8_full l D cy N0 hv6 y ms mb (ra 28) od pt fi re rc rs so ot cn la ro gr 0 ca mv ct fau cs ce rn (ra (24 + bb)) (rk (24 + bb)) (rv (24 + bb)) ((S (24 + bb)).1) (nI (S (24 + bb)).2.2.1) (nI (S (24 + bb)).2.2.2) rwbb nbb Fbb Gbb p2 hY ⟨hRbb.1, hRbb.2.1, hRbb.2.2.1, fabb, fkbb, fvbb⟩ (by omega)) kX8_full g1468 g1470 rfl gp62 g4 hP hS hY (by first | decide | omega) hl.1 rfl (by simp [q_catrf, q_cati, q_catl, q_cata, q_catn]) (by first | decide | omega) dX8_build_271 (fun q ce E h' H1 locs1 hE => hE.elim) (fun v hh12 H locs hq hP hS => ?_)
                              obtain ⟨rfl, rfl⟩ := hq
                              rw [xAl_row (kd := (S (24 + bb)).1) (g := Gbb), ← hLbb]
                              by_cases cr : 15 < xAl gr (S (24 + bb)).2.1 p2
                              · rw [if_pos cr]
                                refine lv_if_ne (tgt := 281) hx hb dX8_build_274 (by decide) (fun c274 => ?_) (fun c274 => ?_)
                                · replace c274 : ¬ 1 = 0 := fun zq => c274 ((nI_eq (a := 1) (b := 0) (by omega) (by omega)).mpr zq)
                                  refine lv_iconst (v := nI 0) hx hb dX8_build_281 (by decide) ?_
                                  refine lv_iconst (v := nI 5) hx hb dX8_build_282 (by decide) ?_
                                  refine q_callV (rest := []) C (c_X8_good0 l D cy N0 hv6 y ms mb (ra 28) od pt fi re rc rs so ot cn la ro gr 0 ca mv ct fau cs ce rn (nI 5) hY) kX8_good g1249 g1251 rfl gp41 g4 hP hS hY (by first | decide | omega) hl.1 rfl (by decide) (by first | decide | omega) dX8_build_283 (fun q ce E h' H1 locs1 hE => hE.elim) (fun v hh13 H locs hq hP hS => ?_)
                                  obtain ⟨rfl, rfl⟩ := hq
                                  replace hP : qP D N0 (qs hv6 y (.inr (8, [.ref ms, .ref mb, .ref (ra 28), .int gr, .int (nI 5), .int ca, .int mv, .ref od, .ref pt, .int ct, .int fau, .ref fi, .ref re, .int cs, .ref rc, .ref rs, .ref so, .ref ot, .ref cn, .ref la, .int ce, .ref ro, .int rn]))) H := hP
                                  obtain ⟨hv10, ehv10⟩ : ∃ z : qH, z = qs hv6 y (.inr (8, [.ref ms, .ref mb, .ref (ra 28), .int gr, .int (nI 5), .int ca, .int mv, .ref od, .ref pt, .int ct, .int fau, .ref fi, .ref re, .int cs, .ref rc, .ref rs, .ref so, .ref ot, .ref cn, .ref la, .int ce, .ref ro, .int rn])) := ⟨_, rfl⟩
                                  rw [← ehv10] at hP
                                  have khv10 : ∀ b o, b ≠ y → hv6 b = some o → hv10 b = some o := by rw [ehv10]; exact fun b o nb hb => (qs_ne nb).trans hb
                                  replace hms := khv10 _ _ (fun q => by subst q; have := hms.symm.trans hY; first | cases this | simp at this) hms
                                  replace hmb := khv10 _ _ (fun q => by subst q; have := hmb.symm.trans hY; first | cases this | simp at this) hmb
                                  replace faw := khv10 _ _ (fun q => by have z9 := faw; rw [q] at z9; have := z9.symm.trans hY; first | cases this | simp at this) faw
                                  replace fkw := khv10 _ _ (fun q => by have z9 := fkw; rw [q] at z9; have := z9.symm.trans hY; first | cases this | simp at this) fkw
                                  replace fvw := khv10 _ _ (fun q => by have z9 := fvw; rw [q] at z9; have := z9.symm.trans hY; first | cases this | simp at this) fvw
                                  replace fabb := khv10 _ _ (fun q => by have z9 := fabb; rw [q] at z9; have := z9.symm.trans hY; first | cases this | simp at this) fabb
                                  replace fkbb := khv10 _ _ (fun q => by have z9 := fkbb; rw [q] at z9; have := z9.symm.trans hY; first | cases this | simp at this) fkbb
                                  replace fvbb := khv10 _ _ (fun q => by have z9 := fvbb; rw [q] at z9; have := z9.symm.trans hY; first | cases this | simp at this) fvbb
                                  replace hY : hv10 y = some (.inr (8, [.ref ms, .ref mb, .ref (ra 28), .int gr, .int (nI 5), .int ca, .int mv, .ref od, .ref pt, .int ct, .int fau, .ref fi, .ref re, .int cs, .ref rc, .ref rs, .ref so, .ref ot, .ref cn, .ref la, .int ce, .ref ro, .int rn])) := by rw [ehv10]; exact qs_self
                                  clear ehv10
                                  replace fr := fun b o hb n1 n2 => khv10 b o n1 (fr b o hb n1 n2)
                                  refine lv_if_ne (tgt := 291) hx hb dX8_build_286 (by decide) (fun c286 => ?_) (fun c286 => ?_)
                                  · replace c286 : ¬ 0 = 0 := fun zq => c286 ((nI_eq (a := 0) (b := 0) (by omega) (by omega)).mpr zq)
                                    exfalso; omega
                                  · replace c286 : 0 = 0 := (nI_eq (a := 0) (b := 0) (by omega) (by omega)).mp c286
                                    refine lv_iconst (v := nI 0) hx hb dX8_build_289 (by decide) ?_
                                    have ex : xs_build gr S (nI bb) (nI 0) p2 p3 = (5, S, 0) := by unfold xs_build; rw [if_neg (by simp [ebb, ebk]), ecb, if_neg c39, ecw, if_neg c69]; unfold xr_buildH; rw [if_neg (by decide), if_pos rfl, if_neg (fun z => z.elim (fun z => by rw [hx8] at z; cases z) (fun z => by first | omega | exact z.2 cr))]
                                    obtain ⟨m9, f9⟩ := hM.fin0 hY0 (h' := hv10) ⟨hRw.1, hRw.2.1, hRw.2.2.1, faw, fkw, fvw⟩ fr
                                    exact q_iret C hP hS ⟨by first | (rw [ex]; done) | (rw [ex]; rfl), by rw [ex]; exact hY, by first | exact m9 | (rw [ex]; exact m9), f9⟩ (by omega) dX8_build_290
                                · replace c274 : 1 = 0 := (nI_eq (a := 1) (b := 0) (by omega) (by omega)).mp c274
                                  exfalso; omega
                              · rw [if_neg cr]
                                refine lv_if_ne (tgt := 281) hx hb dX8_build_274 (by decide) (fun c274 => ?_) (fun c274 => ?_)
                                · replace c274 : ¬ 0 = 0 := fun zq => c274 ((nI_eq (a := 0) (b := 0) (by omega) (by omega)).mpr zq)
                                  exfalso; omega
                                · replace c274 : 0 = 0 := (nI_eq (a := 0) (b := 0) (by omega) (by omega)).mp c274
                                  refine lv_iconst (v := nI 1) hx hb dX8_build_277 (by decide) ?_
                                  refine lv_goto (tgt := 282) hx hb dX8_build_278 (by decide) ?_
                                  refine lv_iconst (v := nI 5) hx hb dX8_build_282 (by decide) ?_
                                  refine q_callV (rest := []) C (c_X8_good1 l D cy N0 hv6 y ms mb (ra 28) od pt fi re rc rs so ot cn la ro gr 0 ca mv ct fau cs ce rn (nI 5) hY) kX8_good g1249 g1251 rfl gp41 g4 hP hS hY (by first | decide | omega) hl.1 rfl (by decide) (by first | decide | omega) dX8_build_283 (fun q ce E h' H1 locs1 hE => hE.elim) (fun v hh14 H locs hq hP hS => ?_)
                                  obtain ⟨rfl, rfl⟩ := hq
                                  replace hP : qP D N0 (qs hv6 y (.inr (8, [.ref ms, .ref mb, .ref (ra 28), .int gr, .int 0, .int ca, .int mv, .ref od, .ref pt, .int ct, .int fau, .ref fi, .ref re, .int cs, .ref rc, .ref rs, .ref so, .ref ot, .ref cn, .ref la, .int ce, .ref ro, .int rn]))) H := hP
                                  obtain ⟨hv11, ehv11⟩ : ∃ z : qH, z = qs hv6 y (.inr (8, [.ref ms, .ref mb, .ref (ra 28), .int gr, .int 0, .int ca, .int mv, .ref od, .ref pt, .int ct, .int fau, .ref fi, .ref re, .int cs, .ref rc, .ref rs, .ref so, .ref ot, .ref cn, .ref la, .int ce, .ref ro, .int rn])) := ⟨_, rfl⟩
                                  rw [← ehv11] at hP
                                  have khv11 : ∀ b o, b ≠ y → hv6 b = some o → hv11 b = some o := by rw [ehv11]; exact fun b o nb hb => (qs_ne nb).trans hb
                                  replace hms := khv11 _ _ (fun q => by subst q; have := hms.symm.trans hY; first | cases this | simp at this) hms
                                  replace hmb := khv11 _ _ (fun q => by subst q; have := hmb.symm.trans hY; first | cases this | simp at this) hmb
                                  replace faw := khv11 _ _ (fun q => by have z9 := faw; rw [q] at z9; have := z9.symm.trans hY; first | cases this | simp at this) faw
                                  replace fkw := khv11 _ _ (fun q => by have z9 := fkw; rw [q] at z9; have := z9.symm.trans hY; first | cases this | simp at this) fkw
                                  replace fvw := khv11 _ _ (fun q => by have z9 := fvw; rw [q] at z9; have := z9.symm.trans hY; first | cases this | simp at this) fvw
                                  replace fabb := khv11 _ _ (fun q => by have z9 := fabb; rw [q] at z9; have := z9.symm.trans hY; first | cases this | simp at this) fabb
                                  replace fkbb := khv11 _ _ (fun q => by have z9 := fkbb; rw [q] at z9; have := z9.symm.trans hY; first | cases this | simp at this) fkbb
                                  replace fvbb := khv11 _ _ (fun q => by have z9 := fvbb; rw [q] at z9; have := z9.symm.trans hY; first | cases this | simp at this) fvbb
                                  replace hY : hv11 y = some (.inr (8, [.ref ms, .ref mb, .ref (ra 28), .int gr, .int 0, .int ca, .int mv, .ref od, .ref pt, .int ct, .int fau, .ref fi, .ref re, .int cs, .ref rc, .ref rs, .ref so, .ref ot, .ref cn, .ref la, .int ce, .ref ro, .int rn])) := by rw [ehv11]; exact qs_self
                                  clear ehv11
                                  replace fr := fun b o hb n1 n2 => khv11 b o n1 (fr b o hb n1 n2)
                                  refine lv_if_ne (tgt := 291) hx hb dX8_build_286 (by decide) (fun c286 => ?_) (fun c286 => ?_)
                                  · replace c286 : ¬ 1 = 0 := fun zq => c286 ((nI_eq (a := 1) (b := 0) (by omega) (by omega)).mpr zq)
                                    have lw := hLbb.symm
                                    replace fr := fun b o hb n1 n2 (n3 : qOf (ra (24 + bb)) (rk (24 + bb)) (rv (24 + bb)) b) => fr b o hb n1 n2
                                    refine lv_aload hx hb dX8_build_291 (lv_at hl 1 rfl) ?_
                                    refine lv_lload_n hx hb dX8_build_293 rfl (lv_at hl 5 rfl) ?_
                                    refine lv_lload hx hb dX8_build_294 (lv_at hl 6 rfl) ?_
                                    refine lv_iconst (v := nI 0) hx hb dX8_build_296 (by decide) ?_
                                    refine q_callS (rest := []) C (c_X8_put l D cy N0 hv11 (ra (24 + bb)) (rk (24 + bb)) (rv (24 + bb)) ((S (24 + bb)).1) (nI (S (24 + bb)).2.2.1) (nI (S (24 + bb)).2.2.2) rwbb nbb Fbb Gbb p2 p3 0 ⟨hRbb.1, hRbb.2.1, hRbb.2.2.1, fabb, fkbb, fvbb⟩ (by omega) (by decide)) kX8_put g1276 g1277 hP hS (by first | decide | omega) hl.1 rfl (by decide) (by first | decide | omega) dX8_build_297 (fun q ce E h' H1 locs1 hE => hE.elim) (fun v hh15 H locs hq hP hS => ?_)
                                    obtain ⟨rfl, hq⟩ := hq
                                    rcases hq with ⟨hz9, j9, hj9, e9, m9, rfl⟩ | ⟨hno9, p9, hp9, hs9, ht9, rfl⟩
                                    · obtain ⟨hv12, ehv12⟩ : ∃ z : qH, z = qRh cy hv11 (ra (24 + bb)) (rk (24 + bb)) (rv (24 + bb)) ((S (24 + bb)).1) (nI nbb) (nI (S (24 + bb)).2.2.1) (nI (S (24 + bb)).2.2.2) rwbb Fbb (vp_updL Gbb j9 p3) := ⟨_, rfl⟩
                                      rw [← ehv12] at hP
                                      have r9 : qRw cy hv12 (ra (24 + bb)) (rk (24 + bb)) (rv (24 + bb)) ((S (24 + bb)).1) (nI nbb) (nI (S (24 + bb)).2.2.1) (nI (S (24 + bb)).2.2.2) rwbb Fbb (vp_updL Gbb j9 p3) := by rw [ehv12]; exact qRw.new (cy := cy) (h := hv11) (kd := (S (24 + bb)).1) (n := (nI nbb)) (sm := (nI (S (24 + bb)).2.2.1)) (dp := (nI (S (24 + bb)).2.2.2)) (rw := rwbb) (f := Fbb) (g := Gbb) ⟨hRbb.1, hRbb.2.1, hRbb.2.2.1, fabb, fkbb, fvbb⟩
                                      have khv12 : ∀ b o, qOf (ra (24 + bb)) (rk (24 + bb)) (rv (24 + bb)) b → hv11 b = some o → hv12 b = some o := by rw [ehv12]; exact fun b o q hb => (qRh_o q.1 q.2.1 q.2.2).trans hb
                                      replace hY := khv12 _ _ ⟨fun q => by rw [q] at hY; have := fabb.symm.trans hY; first | cases this | simp at this, fun q => by rw [q] at hY; have := fkbb.symm.trans hY; first | cases this | simp at this, fun q => by rw [q] at hY; have := fvbb.symm.trans hY; first | cases this | simp at this⟩ hY
                                      replace hms := khv12 _ _ ⟨fun q => by rw [q] at hms; have := fabb.symm.trans hms; first | cases this | simp at this, fun q => by rw [q] at hms; have := fkbb.symm.trans hms; first | cases this | simp at this, fun q => by rw [q] at hms; have := fvbb.symm.trans hms; first | cases this | simp at this⟩ hms
                                      replace hmb := khv12 _ _ ⟨fun q => by rw [q] at hmb; have := fabb.symm.trans hmb; first | cases this | simp at this, fun q => by rw [q] at hmb; have := fkbb.symm.trans hmb; first | cases this | simp at this, fun q => by rw [q] at hmb; have := fvbb.symm.trans hmb; first | cases this | simp at this⟩ hmb
                                      replace faw := khv12 _ _ awbb.1 faw
                                      replace fkw := khv12 _ _ awbb.2.1 fkw
                                      replace fvw := khv12 _ _ awbb.2.2 fvw
                                      replace fr := fun b o hb n1 n2 n3 => khv12 b o n3 (fr b o hb n1 n2 n3)
                                      clear fabb fkbb fvbb
                                      have fabb := r9.2.2.2.1
                                      have fkbb := r9.2.2.2.2.1
                                      have fvbb := r9.2.2.2.2.2
                                      unfold qRb at fabb
                                      unfold qJr at fkbb fvbb
                                      clear r9 ehv12
                                      replace lw : qLs ((S (24 + bb)).1) Fbb (vp_updL Gbb j9 p3) nbb = xPut ((S (24 + bb)).1) false ((S (24 + bb)).2.1) p2 (xV ((S (24 + bb)).1) p3) := by rw [qLs_re (lw ▸ (hI (24 + bb) (by omega)).2.1 (hkd bb (by omega) c39 c69)) hj9 e9, lw, xPut, if_pos ⟨rfl, by rw [← lw]; exact xHas_t hj9 e9⟩]
                                      refine lv_goto (tgt := 315) hx hb dX8_build_300 (by decide) ?_
                                      refine lv_aload hx hb dX8_build_315 (lv_at hl 1 rfl) ?_
                                      refine q_get C hP fabb rfl inX7 3 (by decide) g1143 rfl dX8_build_317 ?_
                                      have el : (xPut ((S (24 + bb)).1) false ((S (24 + bb)).2.1) p2 (xV ((S (24 + bb)).1) p3)).length = nbb := by rw [← lw, qLs_len]
                                      have ex : xs_build gr S (nI bb) (nI 0) p2 p3 = (0, qU S (24 + bb) ((S (24 + bb)).1, (xPut ((S (24 + bb)).1) false ((S (24 + bb)).2.1) p2 (xV ((S (24 + bb)).1) p3)), (S (24 + bb)).2.2), nI (nbb)) := by unfold xs_build; rw [if_neg (by simp [ebb, ebk]), ecb, if_neg c39, ecw, if_neg c69]; unfold xr_buildH; rw [if_neg (by decide), if_pos rfl, if_pos (by first | exact Or.inl hx8 | exact Or.inr ⟨by omega, cr⟩), el]
                                      obtain ⟨m9, f9⟩ := hM.fin hY0 (i := (24 + bb)) (by omega) (s := ((S (24 + bb)).1, (xPut ((S (24 + bb)).1) false ((S (24 + bb)).2.1) p2 (xV ((S (24 + bb)).1) p3)), (S (24 + bb)).2.2)) ⟨nbb, _, _, _, ⟨hRbb.1, hRbb.2.1, hRbb.2.2.1, fabb, fkbb, fvbb⟩, by omega, lw.symm, by first | exact Or.inl rfl | exact xRo.mv (by omega) hKj | exact xRo.bl (by omega) hKbb⟩ ⟨hRw.1, hRw.2.1, hRw.2.2.1, faw, fkw, fvw⟩ fr
                                      exact q_iret C hP hS ⟨by first | (rw [ex]; done) | (rw [ex]; rfl), by rw [ex]; exact hY, by rw [ex]; exact m9, f9⟩ (by omega) dX8_build_320
                                    · obtain ⟨hv13, ehv13⟩ : ∃ z : qH, z = qRh cy hv11 (ra (24 + bb)) (rk (24 + bb)) (rv (24 + bb)) ((S (24 + bb)).1) (nI (nbb + 1)) (nI (S (24 + bb)).2.2.1) (nI (S (24 + bb)).2.2.2) rwbb (vp_updL (qSh Fbb p9 nbb) p9 p2) (vp_updL (qSh Gbb p9 nbb) p9 p3) := ⟨_, rfl⟩
                                      rw [← ehv13] at hP
                                      have r9 : qRw cy hv13 (ra (24 + bb)) (rk (24 + bb)) (rv (24 + bb)) ((S (24 + bb)).1) (nI (nbb + 1)) (nI (S (24 + bb)).2.2.1) (nI (S (24 + bb)).2.2.2) rwbb (vp_updL (qSh Fbb p9 nbb) p9 p2) (vp_updL (qSh Gbb p9 nbb) p9 p3) := by rw [ehv13]; exact qRw.new (cy := cy) (h := hv11) (kd := (S (24 + bb)).1) (n := (nI nbb)) (sm := (nI (S (24 + bb)).2.2.1)) (dp := (nI (S (24 + bb)).2.2.2)) (rw := rwbb) (f := Fbb) (g := Gbb) ⟨hRbb.1, hRbb.2.1, hRbb.2.2.1, fabb, fkbb, fvbb⟩
                                      have khv13 : ∀ b o, qOf (ra (24 + bb)) (rk (24 + bb)) (rv (24 + bb)) b → hv11 b = some o → hv13 b = some o := by rw [ehv13]; exact fun b o q hb => (qRh_o q.1 q.2.1 q.2.2).trans hb
                                      replace hY := khv13 _ _ ⟨fun q => by rw [q] at hY; have := fabb.symm.trans hY; first | cases this | simp at this, fun q => by rw [q] at hY; have := fkbb.symm.trans hY; first | cases this | simp at this, fun q => by rw [q] at hY; have := fvbb.symm.trans hY; first | cases this | simp at this⟩ hY
                                      replace hms := khv13 _ _ ⟨fun q => by rw [q] at hms; have := fabb.symm.trans hms; first | cases this | simp at this, fun q => by rw [q] at hms; have := fkbb.symm.trans hms; first | cases this | simp at this, fun q => by rw [q] at hms; have := fvbb.symm.trans hms; first | cases this | simp at this⟩ hms
                                      replace hmb := khv13 _ _ ⟨fun q => by rw [q] at hmb; have := fabb.symm.trans hmb; first | cases this | simp at this, fun q => by rw [q] at hmb; have := fkbb.symm.trans hmb; first | cases this | simp at this, fun q => by rw [q] at hmb; have := fvbb.symm.trans hmb; first | cases this | simp at this⟩ hmb
                                      replace faw := khv13 _ _ awbb.1 faw
                                      replace fkw := khv13 _ _ awbb.2.1 fkw
                                      replace fvw := khv13 _ _ awbb.2.2 fvw
                                      replace fr := fun b o hb n1 n2 n3 => khv13 b o n3 (fr b o hb n1 n2 n3)
                                      clear fabb fkbb fvbb
                                      have fabb := r9.2.2.2.1
                                      have fkbb := r9.2.2.2.2.1
                                      have fvbb := r9.2.2.2.2.2
                                      unfold qRb at fabb
                                      unfold qJr at fkbb fvbb
                                      clear r9 ehv13
                                      replace lw : qLs ((S (24 + bb)).1) (vp_updL (qSh Fbb p9 nbb) p9 p2) (vp_updL (qSh Gbb p9 nbb) p9 p3) (nbb + 1) = xPut ((S (24 + bb)).1) false ((S (24 + bb)).2.1) p2 (xV ((S (24 + bb)).1) p3) := by
                                        rw [xPut, if_neg (fun q => by have := q.2; rw [← lw, xHas_f (hno9.resolve_right (by decide))] at this; cases this), qLs_ins hp9]
                                        by_cases z9 : ((S (24 + bb)).1) = 3 ∨ ((S (24 + bb)).1) = 5
                                        · rw [if_pos z9, ← lw]; exact xSi_row (lw ▸ (hI (24 + bb) (by omega)).1 z9) hp9 (hs9 z9).1 (hs9 z9).2
                                        · rw [if_neg z9, ht9 z9, lw, List.take_of_length_le (by rw [← lw, qLs_len]; omega), List.drop_of_length_le (by rw [← lw, qLs_len]; omega)]
                                      refine lv_goto (tgt := 315) hx hb dX8_build_300 (by decide) ?_
                                      refine lv_aload hx hb dX8_build_315 (lv_at hl 1 rfl) ?_
                                      refine q_get C hP fabb rfl inX7 3 (by decide) g1143 rfl dX8_build_317 ?_
                                      have el : (xPut ((S (24 + bb)).1) false ((S (24 + bb)).2.1) p2 (xV ((S (24 + bb)).1) p3)).length = (nbb + 1) := by rw [← lw, qLs_len]
                                      have ex : xs_build gr S (nI bb) (nI 0) p2 p3 = (0, qU S (24 + bb) ((S (24 + bb)).1, (xPut ((S (24 + bb)).1) false ((S (24 + bb)).2.1) p2 (xV ((S (24 + bb)).1) p3)), (S (24 + bb)).2.2), nI ((nbb + 1))) := by unfold xs_build; rw [if_neg (by simp [ebb, ebk]), ecb, if_neg c39, ecw, if_neg c69]; unfold xr_buildH; rw [if_neg (by decide), if_pos rfl, if_pos (by first | exact Or.inl hx8 | exact Or.inr ⟨by omega, cr⟩), el]
                                      obtain ⟨m9, f9⟩ := hM.fin hY0 (i := (24 + bb)) (by omega) (s := ((S (24 + bb)).1, (xPut ((S (24 + bb)).1) false ((S (24 + bb)).2.1) p2 (xV ((S (24 + bb)).1) p3)), (S (24 + bb)).2.2)) ⟨(nbb + 1), _, _, _, ⟨hRbb.1, hRbb.2.1, hRbb.2.2.1, fabb, fkbb, fvbb⟩, by omega, lw.symm, by first | exact Or.inl rfl | exact xRo.mv (by omega) hKj | exact xRo.bl (by omega) hKbb⟩ ⟨hRw.1, hRw.2.1, hRw.2.2.1, faw, fkw, fvw⟩ fr
                                      exact q_iret C hP hS ⟨by first | (rw [ex]; done) | (rw [ex]; rfl), by rw [ex]; exact hY, by rw [ex]; exact m9, f9⟩ (by omega) dX8_build_320
                                  · replace c286 : 1 = 0 := (nI_eq (a := 1) (b := 0) (by omega) (by omega)).mp c286
                                    exfalso; omega
                      · replace c233 : 1 = 0 := (nI_eq (a := 1) (b := 0) (by omega) (by omega)).mp c233
                        exfalso; omega
                  · refine lv_iload_n hx hb dX8_build_72 rfl (lv_at hl 3 rfl) ?_
                    refine lv_iconst (v := nI 1) hx hb dX8_build_73 (by decide) ?_
                    refine lv_icmp_ne (tgt := 107) hx hb dX8_build_74 (by decide) (fun c74 => ?_) (fun c74 => ?_)
                    · replace c74 : ¬ 0 = 1 := fun zq => c74 ((nI_eq (a := 0) (b := 1) (by omega) (by omega)).mpr zq)
                      refine lv_iload_n hx hb dX8_build_107 rfl (lv_at hl 3 rfl) ?_
                      refine lv_iconst (v := nI 2) hx hb dX8_build_108 (by decide) ?_
                      refine lv_icmp_ne (tgt := 133) hx hb dX8_build_109 (by decide) (fun c109 => ?_) (fun c109 => ?_)
                      · replace c109 : ¬ 0 = 2 := fun zq => c109 ((nI_eq (a := 0) (b := 2) (by omega) (by omega)).mpr zq)
                        refine lv_iload_n hx hb dX8_build_133 rfl (lv_at hl 3 rfl) ?_
                        refine lv_if_ne (tgt := 163) hx hb dX8_build_134 (by decide) (fun c134 => ?_) (fun c134 => ?_)
                        · replace c134 : ¬ 0 = 0 := fun zq => c134 ((nI_eq (a := 0) (b := 0) (by omega) (by omega)).mpr zq)
                          exfalso; omega
                        · replace c134 : 0 = 0 := (nI_eq (a := 0) (b := 0) (by omega) (by omega)).mp c134
                          refine lv_aload_n hx hb dX8_build_137 rfl (lv_at hl 1 rfl) ?_
                          refine lv_aload hx hb dX8_build_138 (lv_at hl 0 rfl) ?_
                          refine q_get C hP fabb rfl inX7 3 (by decide) g1143 rfl dX8_build_140 ?_
                          refine lv_sipush (v := nI 1000) hx hb dX8_build_143 (by decide) ?_
                          refine lv_icmp_ge (tgt := 153) hx hb dX8_build_146 (by decide) (fun c146 => ?_) (fun c146 => ?_)
                          · replace c146 : 1000 ≤ nbb := (nI_leI (a := 1000) (b := nbb) (by omega) (by omega)).mp c146
                            refine lv_iconst (v := nI 0) hx hb dX8_build_153 (by decide) ?_
                            refine lv_iconst (v := nI 5) hx hb dX8_build_154 (by decide) ?_
                            refine q_callV (rest := []) C (c_X8_good0 l D cy N0 hv5 y ms mb (ra 28) od pt fi re rc rs so ot cn la ro gr 0 ca mv ct fau cs ce rn (nI 5) hY) kX8_good g1249 g1251 rfl gp41 g4 hP hS hY (by first | decide | omega) hl.1 rfl (by decide) (by first | decide | omega) dX8_build_155 (fun q ce E h' H1 locs1 hE => hE.elim) (fun v hh16 H locs hq hP hS => ?_)
                            obtain ⟨rfl, rfl⟩ := hq
                            replace hP : qP D N0 (qs hv5 y (.inr (8, [.ref ms, .ref mb, .ref (ra 28), .int gr, .int (nI 5), .int ca, .int mv, .ref od, .ref pt, .int ct, .int fau, .ref fi, .ref re, .int cs, .ref rc, .ref rs, .ref so, .ref ot, .ref cn, .ref la, .int ce, .ref ro, .int rn]))) H := hP
                            obtain ⟨hv14, ehv14⟩ : ∃ z : qH, z = qs hv5 y (.inr (8, [.ref ms, .ref mb, .ref (ra 28), .int gr, .int (nI 5), .int ca, .int mv, .ref od, .ref pt, .int ct, .int fau, .ref fi, .ref re, .int cs, .ref rc, .ref rs, .ref so, .ref ot, .ref cn, .ref la, .int ce, .ref ro, .int rn])) := ⟨_, rfl⟩
                            rw [← ehv14] at hP
                            have khv14 : ∀ b o, b ≠ y → hv5 b = some o → hv14 b = some o := by rw [ehv14]; exact fun b o nb hb => (qs_ne nb).trans hb
                            replace hms := khv14 _ _ (fun q => by subst q; have := hms.symm.trans hY; first | cases this | simp at this) hms
                            replace hmb := khv14 _ _ (fun q => by subst q; have := hmb.symm.trans hY; first | cases this | simp at this) hmb
                            replace faw := khv14 _ _ (fun q => by have z9 := faw; rw [q] at z9; have := z9.symm.trans hY; first | cases this | simp at this) faw
                            replace fkw := khv14 _ _ (fun q => by have z9 := fkw; rw [q] at z9; have := z9.symm.trans hY; first | cases this | simp at this) fkw
                            replace fvw := khv14 _ _ (fun q => by have z9 := fvw; rw [q] at z9; have := z9.symm.trans hY; first | cases this | simp at this) fvw
                            replace fabb := khv14 _ _ (fun q => by have z9 := fabb; rw [q] at z9; have := z9.symm.trans hY; first | cases this | simp at this) fabb
                            replace fkbb := khv14 _ _ (fun q => by have z9 := fkbb; rw [q] at z9; have := z9.symm.trans hY; first | cases this | simp at this) fkbb
                            replace fvbb := khv14 _ _ (fun q => by have z9 := fvbb; rw [q] at z9; have := z9.symm.trans hY; first | cases this | simp at this) fvbb
                            replace hY : hv14 y = some (.inr (8, [.ref ms, .ref mb, .ref (ra 28), .int gr, .int (nI 5), .int ca, .int mv, .ref od, .ref pt, .int ct, .int fau, .ref fi, .ref re, .int cs, .ref rc, .ref rs, .ref so, .ref ot, .ref cn, .ref la, .int ce, .ref ro, .int rn])) := by rw [ehv14]; exact qs_self
                            clear ehv14
                            replace fr := fun b o hb n1 n2 => khv14 b o n1 (fr b o hb n1 n2)
                            refine lv_if_ne (tgt := 163) hx hb dX8_build_158 (by decide) (fun c158 => ?_) (fun c158 => ?_)
                            · replace c158 : ¬ 0 = 0 := fun zq => c158 ((nI_eq (a := 0) (b := 0) (by omega) (by omega)).mpr zq)
                              exfalso; omega
                            · replace c158 : 0 = 0 := (nI_eq (a := 0) (b := 0) (by omega) (by omega)).mp c158
                              refine lv_iconst (v := nI 0) hx hb dX8_build_161 (by decide) ?_
                              have ex : xs_build gr S (nI bb) (nI 0) p2 p3 = (5, S, 0) := by unfold xs_build; rw [if_neg (by simp [ebb, ebk]), ecb, if_neg c39, ecw, if_pos c69]; unfold xr_buildS; rw [if_neg (by decide), if_neg (by decide), show (S (24 + bb)).2.1.length = nbb from (by rw [hLbb, qLs_len]), if_neg (fun z => by omega)]
                              obtain ⟨m9, f9⟩ := hM.fin0 hY0 (h' := hv14) ⟨hRw.1, hRw.2.1, hRw.2.2.1, faw, fkw, fvw⟩ fr
                              exact q_iret C hP hS ⟨by first | (rw [ex]; done) | (rw [ex]; rfl), by rw [ex]; exact hY, by first | exact m9 | (rw [ex]; exact m9), f9⟩ (by omega) dX8_build_162
                          · replace c146 : ¬ 1000 ≤ nbb := fun zq => c146 ((nI_leI (a := 1000) (b := nbb) (by omega) (by omega)).mpr zq)
                            refine lv_iconst (v := nI 1) hx hb dX8_build_149 (by decide) ?_
                            refine lv_goto (tgt := 154) hx hb dX8_build_150 (by decide) ?_
                            refine lv_iconst (v := nI 5) hx hb dX8_build_154 (by decide) ?_
                            refine q_callV (rest := []) C (c_X8_good1 l D cy N0 hv5 y ms mb (ra 28) od pt fi re rc rs so ot cn la ro gr 0 ca mv ct fau cs ce rn (nI 5) hY) kX8_good g1249 g1251 rfl gp41 g4 hP hS hY (by first | decide | omega) hl.1 rfl (by decide) (by first | decide | omega) dX8_build_155 (fun q ce E h' H1 locs1 hE => hE.elim) (fun v hh17 H locs hq hP hS => ?_)
                            obtain ⟨rfl, rfl⟩ := hq
                            replace hP : qP D N0 (qs hv5 y (.inr (8, [.ref ms, .ref mb, .ref (ra 28), .int gr, .int 0, .int ca, .int mv, .ref od, .ref pt, .int ct, .int fau, .ref fi, .ref re, .int cs, .ref rc, .ref rs, .ref so, .ref ot, .ref cn, .ref la, .int ce, .ref ro, .int rn]))) H := hP
                            obtain ⟨hv15, ehv15⟩ : ∃ z : qH, z = qs hv5 y (.inr (8, [.ref ms, .ref mb, .ref (ra 28), .int gr, .int 0, .int ca, .int mv, .ref od, .ref pt, .int ct, .int fau, .ref fi, .ref re, .int cs, .ref rc, .ref rs, .ref so, .ref ot, .ref cn, .ref la, .int ce, .ref ro, .int rn])) := ⟨_, rfl⟩
                            rw [← ehv15] at hP
                            have khv15 : ∀ b o, b ≠ y → hv5 b = some o → hv15 b = some o := by rw [ehv15]; exact fun b o nb hb => (qs_ne nb).trans hb
                            replace hms := khv15 _ _ (fun q => by subst q; have := hms.symm.trans hY; first | cases this | simp at this) hms
                            replace hmb := khv15 _ _ (fun q => by subst q; have := hmb.symm.trans hY; first | cases this | simp at this) hmb
                            replace faw := khv15 _ _ (fun q => by have z9 := faw; rw [q] at z9; have := z9.symm.trans hY; first | cases this | simp at this) faw
                            replace fkw := khv15 _ _ (fun q => by have z9 := fkw; rw [q] at z9; have := z9.symm.trans hY; first | cases this | simp at this) fkw
                            replace fvw := khv15 _ _ (fun q => by have z9 := fvw; rw [q] at z9; have := z9.symm.trans hY; first | cases this | simp at this) fvw
                            replace fabb := khv15 _ _ (fun q => by have z9 := fabb; rw [q] at z9; have := z9.symm.trans hY; first | cases this | simp at this) fabb
                            replace fkbb := khv15 _ _ (fun q => by have z9 := fkbb; rw [q] at z9; have := z9.symm.trans hY; first | cases this | simp at this) fkbb
                            replace fvbb := khv15 _ _ (fun q => by have z9 := fvbb; rw [q] at z9; have := z9.symm.trans hY; first | cases this | simp at this) fvbb
                            replace hY : hv15 y = some (.inr (8, [.ref ms, .ref mb, .ref (ra 28), .int gr, .int 0, .int ca, .int mv, .ref od, .ref pt, .int ct, .int fau, .ref fi, .ref re, .int cs, .ref rc, .ref rs, .ref so, .ref ot, .ref cn, .ref la, .int ce, .ref ro, .int rn])) := by rw [ehv15]; exact qs_self
                            clear ehv15
                            replace fr := fun b o hb n1 n2 => khv15 b o n1 (fr b o hb n1 n2)
                            refine lv_if_ne (tgt := 163) hx hb dX8_build_158 (by decide) (fun c158 => ?_) (fun c158 => ?_)
                            · replace c158 : ¬ 1 = 0 := fun zq => c158 ((nI_eq (a := 1) (b := 0) (by omega) (by omega)).mpr zq)
                              have lw := hLbb.symm
                              replace fr := fun b o hb n1 n2 (n3 : qOf (ra (24 + bb)) (rk (24 + bb)) (rv (24 + bb)) b) => fr b o hb n1 n2
                              have elen : (S (24 + bb)).2.1.length = nbb := by rw [hLbb, qLs_len]
                              refine lv_iload_n hx hb dX8_build_163 rfl (lv_at hl 3 rfl) ?_
                              refine lv_if_ne (tgt := 183) hx hb dX8_build_164 (by decide) (fun c164 => ?_) (fun c164 => ?_)
                              · replace c164 : ¬ 0 = 0 := fun zq => c164 ((nI_eq (a := 0) (b := 0) (by omega) (by omega)).mpr zq)
                                exfalso; omega
                              · replace c164 : 0 = 0 := (nI_eq (a := 0) (b := 0) (by omega) (by omega)).mp c164
                                refine lv_aload hx hb dX8_build_167 (lv_at hl 0 rfl) ?_
                                refine lv_aload hx hb dX8_build_169 (lv_at hl 0 rfl) ?_
                                refine q_get C hP fabb rfl inX7 3 (by decide) g1143 rfl dX8_build_171 ?_
                                refine lv_lload hx hb dX8_build_174 (lv_at hl 5 rfl) ?_
                                refine lv_lconst (v := 0) hx hb dX8_build_176 (by decide) ?_
                                refine q_callS (rest := []) C (c_X8_insert l D cy N0 hv15 (ra (24 + bb)) (rk (24 + bb)) (rv (24 + bb)) ((S (24 + bb)).1) (nI (S (24 + bb)).2.2.1) (nI (S (24 + bb)).2.2.2) rwbb nbb Fbb Gbb nbb p3 0 ⟨hRbb.1, hRbb.2.1, hRbb.2.2.1, fabb, fkbb, fvbb⟩ (by omega) (by omega)) kX8_insert g1282 g1283 hP hS (by first | decide | omega) hl.1 rfl (by decide) (by first | decide | omega) dX8_build_177 (fun q ce E h' H1 locs1 hE => hE.elim) (fun v hh18 H locs hq hP hS => ?_)
                                obtain ⟨rfl, rfl⟩ := hq
                                obtain ⟨hv16, ehv16⟩ : ∃ z : qH, z = qRh cy hv15 (ra (24 + bb)) (rk (24 + bb)) (rv (24 + bb)) ((S (24 + bb)).1) (nI (nbb + 1)) (nI (S (24 + bb)).2.2.1) (nI (S (24 + bb)).2.2.2) rwbb (vp_updL (qSh Fbb nbb nbb) nbb p3) (vp_updL (qSh Gbb nbb nbb) nbb 0) := ⟨_, rfl⟩
                                rw [← ehv16] at hP
                                have r9 : qRw cy hv16 (ra (24 + bb)) (rk (24 + bb)) (rv (24 + bb)) ((S (24 + bb)).1) (nI (nbb + 1)) (nI (S (24 + bb)).2.2.1) (nI (S (24 + bb)).2.2.2) rwbb (vp_updL (qSh Fbb nbb nbb) nbb p3) (vp_updL (qSh Gbb nbb nbb) nbb 0) := by rw [ehv16]; exact qRw.new (cy := cy) (h := hv15) (kd := (S (24 + bb)).1) (n := (nI nbb)) (sm := (nI (S (24 + bb)).2.2.1)) (dp := (nI (S (24 + bb)).2.2.2)) (rw := rwbb) (f := Fbb) (g := Gbb) ⟨hRbb.1, hRbb.2.1, hRbb.2.2.1, fabb, fkbb, fvbb⟩
                                have khv16 : ∀ b o, qOf (ra (24 + bb)) (rk (24 + bb)) (rv (24 + bb)) b → hv15 b = some o → hv16 b = some o := by rw [ehv16]; exact fun b o q hb => (qRh_o q.1 q.2.1 q.2.2).trans hb
                                replace hY := khv16 _ _ ⟨fun q => by rw [q] at hY; have := fabb.symm.trans hY; first | cases this | simp at this, fun q => by rw [q] at hY; have := fkbb.symm.trans hY; first | cases this | simp at this, fun q => by rw [q] at hY; have := fvbb.symm.trans hY; first | cases this | simp at this⟩ hY
                                replace hms := khv16 _ _ ⟨fun q => by rw [q] at hms; have := fabb.symm.trans hms; first | cases this | simp at this, fun q => by rw [q] at hms; have := fkbb.symm.trans hms; first | cases this | simp at this, fun q => by rw [q] at hms; have := fvbb.symm.trans hms; first | cases this | simp at this⟩ hms
                                replace hmb := khv16 _ _ ⟨fun q => by rw [q] at hmb; have := fabb.symm.trans hmb; first | cases this | simp at this, fun q => by rw [q] at hmb; have := fkbb.symm.trans hmb; first | cases this | simp at this, fun q => by rw [q] at hmb; have := fvbb.symm.trans hmb; first | cases this | simp at this⟩ hmb
                                replace faw := khv16 _ _ awbb.1 faw
                                replace fkw := khv16 _ _ awbb.2.1 fkw
                                replace fvw := khv16 _ _ awbb.2.2 fvw
                                replace fr := fun b o hb n1 n2 n3 => khv16 b o n3 (fr b o hb n1 n2 n3)
                                clear fabb fkbb fvbb
                                have fabb := r9.2.2.2.1
                                have fkbb := r9.2.2.2.2.1
                                have fvbb := r9.2.2.2.2.2
                                unfold qRb at fabb
                                unfold qJr at fkbb fvbb
                                clear r9 ehv16
                                replace lw : qLs ((S (24 + bb)).1) (vp_updL (qSh Fbb nbb nbb) nbb p3) (vp_updL (qSh Gbb nbb nbb) nbb 0) (nbb + 1) = ((S (24 + bb)).2.1).take nbb ++ (p3, xV ((S (24 + bb)).1) 0) :: ((S (24 + bb)).2.1).drop nbb := by rw [qLs_ins (by omega), lw]
                                refine lv_goto (tgt := 212) hx hb dX8_build_180 (by decide) ?_
                                refine lv_aload hx hb dX8_build_212 (lv_at hl 0 rfl) ?_
                                refine q_get C hP fabb rfl inX7 3 (by decide) g1143 rfl dX8_build_214 ?_
                                have ex : xs_build gr S (nI bb) (nI 0) p2 p3 = (0, qU S (24 + bb) ((S (24 + bb)).1, ((S (24 + bb)).2.1 ++ [(p3, (0 : Int64))]), (S (24 + bb)).2.2), nI (nbb + 1)) := by unfold xs_build; rw [if_neg (by simp [ebb, ebk]), ecb, if_neg c39, ecw, if_pos c69]; unfold xr_buildS; rw [if_neg (by decide), if_neg (by decide), show (S (24 + bb)).2.1.length = nbb from (by rw [hLbb, qLs_len]), if_pos (by omega)]
                                obtain ⟨m9, f9⟩ := hM.fin hY0 (i := (24 + bb)) (by omega) (s := ((S (24 + bb)).1, ((S (24 + bb)).2.1 ++ [(p3, (0 : Int64))]), (S (24 + bb)).2.2)) ⟨(nbb + 1), _, _, _, ⟨hRbb.1, hRbb.2.1, hRbb.2.2.1, fabb, fkbb, fvbb⟩, by omega, by rw [lw, List.take_of_length_le (by omega), List.drop_of_length_le (by omega), show xV (S (24 + bb)).1 0 = 0 from (by unfold xV; split <;> rfl)], by first | exact Or.inl rfl | exact xRo.mv (by omega) hKj | exact xRo.bl (by omega) hKbb⟩ ⟨hRw.1, hRw.2.1, hRw.2.2.1, faw, fkw, fvw⟩ fr
                                exact q_iret C hP hS ⟨by first | (rw [ex]; done) | (rw [ex]; rfl), by rw [ex]; exact hY, by rw [ex]; exact m9, f9⟩ (by omega) dX8_build_217
                            · replace c158 : 1 = 0 := (nI_eq (a := 1) (b := 0) (by omega) (by omega)).mp c158
                              exfalso; omega
                      · replace c109 : 0 = 2 := (nI_eq (a := 0) (b := 2) (by omega) (by omega)).mp c109
                        exfalso; omega
                    · replace c74 : 0 = 1 := (nI_eq (a := 0) (b := 1) (by omega) (by omega)).mp c74
                      exfalso; omega
                · replace c51 : 1 = 0 := (nI_eq (a := 1) (b := 0) (by omega) (by omega)).mp c51
                  exfalso; omega
          · refine lv_iconst (v := nI 1) hx hb dX8_build_17 (by decide) ?_
            refine lv_goto (tgt := 22) hx hb dX8_build_18 (by decide) ?_
            refine lv_iconst (v := nI 1) hx hb dX8_build_22 (by decide) ?_
            refine q_callV (rest := []) C (c_X8_good1 l D cy N0 h y ms mb (ra 28) od pt fi re rc rs so ot cn la ro gr cd ca mv ct fau cs ce rn (nI 1) hY) kX8_good g1249 g1251 rfl gp41 g4 hP hS hY (by first | decide | omega) hl.1 rfl (by decide) (by first | decide | omega) dX8_build_23 (fun q ce E h' H1 locs1 hE => hE.elim) (fun v hh19 H locs hq hP hS => ?_)
            obtain ⟨rfl, rfl⟩ := hq
            replace hP : qP D N0 (qs h y (.inr (8, [.ref ms, .ref mb, .ref (ra 28), .int gr, .int 0, .int ca, .int mv, .ref od, .ref pt, .int ct, .int fau, .ref fi, .ref re, .int cs, .ref rc, .ref rs, .ref so, .ref ot, .ref cn, .ref la, .int ce, .ref ro, .int rn]))) H := hP
            obtain ⟨hv17, ehv17⟩ : ∃ z : qH, z = qs h y (.inr (8, [.ref ms, .ref mb, .ref (ra 28), .int gr, .int 0, .int ca, .int mv, .ref od, .ref pt, .int ct, .int fau, .ref fi, .ref re, .int cs, .ref rc, .ref rs, .ref so, .ref ot, .ref cn, .ref la, .int ce, .ref ro, .int rn])) := ⟨_, rfl⟩
            rw [← ehv17] at hP
            have khv17 : ∀ b o, b ≠ y → h b = some o → hv17 b = some o := by rw [ehv17]; exact fun b o nb hb => (qs_ne nb).trans hb
            replace hms := khv17 _ _ (fun q => by subst q; have := hms.symm.trans hY; first | cases this | simp at this) hms
            replace hmb := khv17 _ _ (fun q => by subst q; have := hmb.symm.trans hY; first | cases this | simp at this) hmb
            replace faw := khv17 _ _ (fun q => by have z9 := faw; rw [q] at z9; have := z9.symm.trans hY; first | cases this | simp at this) faw
            replace fkw := khv17 _ _ (fun q => by have z9 := fkw; rw [q] at z9; have := z9.symm.trans hY; first | cases this | simp at this) fkw
            replace fvw := khv17 _ _ (fun q => by have z9 := fvw; rw [q] at z9; have := z9.symm.trans hY; first | cases this | simp at this) fvw
            replace hY : hv17 y = some (.inr (8, [.ref ms, .ref mb, .ref (ra 28), .int gr, .int 0, .int ca, .int mv, .ref od, .ref pt, .int ct, .int fau, .ref fi, .ref re, .int cs, .ref rc, .ref rs, .ref so, .ref ot, .ref cn, .ref la, .int ce, .ref ro, .int rn])) := by rw [ehv17]; exact qs_self
            clear ehv17
            replace fr := fun b o hb n1 n2 => khv17 b o n1 (fr b o hb n1 n2)
            refine lv_if_eq (tgt := 54) hx hb dX8_build_26 (by decide) (fun c26 => ?_) (fun c26 => ?_)
            · replace c26 : 1 = 0 := (nI_eq (a := 1) (b := 0) (by omega) (by omega)).mp c26
              exfalso; omega
            · replace c26 : ¬ 1 = 0 := fun zq => c26 ((nI_eq (a := 1) (b := 0) (by omega) (by omega)).mpr zq)
              refine lv_aload_n hx hb dX8_build_29 rfl (lv_at hl 0 rfl) ?_
              refine lv_aload_n hx hb dX8_build_30 rfl (lv_at hl 0 rfl) ?_
              refine q_get C hP hY rfl inX8 1 (by decide) g1168 rfl dX8_build_31 ?_
              refine lv_iload_n hx hb dX8_build_34 rfl (lv_at hl 1 rfl) ?_
              refine q_aaldR C hP hmb rfl (by omega) (by omega) rfl dX8_build_35 ?_
              obtain ⟨nbb, rwbb, Fbb, Gbb, hRbb, hnbb, hLbb, hKbb⟩ := hrs (24 + bb) (by omega)
              have apbb := hRbb.apart hRw (hmd.two (i := (24 + bb)) (j := 28) (by omega) (by omega) (by omega))
              replace hRbb := hRbb.keep2 (fun b o hb ho => fr b o ho (hRbb.ney hY0 hb) (hb.elim (fun q => q ▸ apbb.1) (fun hb => hb.elim (fun q => q ▸ apbb.2.1) (fun q => q ▸ apbb.2.2))))
              have fabb := hRbb.2.2.2.1
              have fkbb := hRbb.2.2.2.2.1
              have fvbb := hRbb.2.2.2.2.2
              unfold qRb at fabb
              unfold qJr at fkbb fvbb
              refine q_get C hP fabb rfl inX7 2 (by decide) g1142 rfl dX8_build_36 ?_
              refine lv_if_lt (tgt := 46) hx hb dX8_build_39 (by decide) (fun c39 => ?_) (fun c39 => ?_)
              · refine lv_iconst (v := nI 0) hx hb dX8_build_46 (by decide) ?_
                refine lv_iconst (v := nI 2) hx hb dX8_build_47 (by decide) ?_
                refine q_callV (rest := []) C (c_X8_good0 l D cy N0 hv17 y ms mb (ra 28) od pt fi re rc rs so ot cn la ro gr 0 ca mv ct fau cs ce rn (nI 2) hY) kX8_good g1249 g1251 rfl gp41 g4 hP hS hY (by first | decide | omega) hl.1 rfl (by decide) (by first | decide | omega) dX8_build_48 (fun q ce E h' H1 locs1 hE => hE.elim) (fun v hh20 H locs hq hP hS => ?_)
                obtain ⟨rfl, rfl⟩ := hq
                replace hP : qP D N0 (qs hv17 y (.inr (8, [.ref ms, .ref mb, .ref (ra 28), .int gr, .int (nI 2), .int ca, .int mv, .ref od, .ref pt, .int ct, .int fau, .ref fi, .ref re, .int cs, .ref rc, .ref rs, .ref so, .ref ot, .ref cn, .ref la, .int ce, .ref ro, .int rn]))) H := hP
                obtain ⟨hv18, ehv18⟩ : ∃ z : qH, z = qs hv17 y (.inr (8, [.ref ms, .ref mb, .ref (ra 28), .int gr, .int (nI 2), .int ca, .int mv, .ref od, .ref pt, .int ct, .int fau, .ref fi, .ref re, .int cs, .ref rc, .ref rs, .ref so, .ref ot, .ref cn, .ref la, .int ce, .ref ro, .int rn])) := ⟨_, rfl⟩
                rw [← ehv18] at hP
                have khv18 : ∀ b o, b ≠ y → hv17 b = some o → hv18 b = some o := by rw [ehv18]; exact fun b o nb hb => (qs_ne nb).trans hb
                replace hms := khv18 _ _ (fun q => by subst q; have := hms.symm.trans hY; first | cases this | simp at this) hms
                replace hmb := khv18 _ _ (fun q => by subst q; have := hmb.symm.trans hY; first | cases this | simp at this) hmb
                replace faw := khv18 _ _ (fun q => by have z9 := faw; rw [q] at z9; have := z9.symm.trans hY; first | cases this | simp at this) faw
                replace fkw := khv18 _ _ (fun q => by have z9 := fkw; rw [q] at z9; have := z9.symm.trans hY; first | cases this | simp at this) fkw
                replace fvw := khv18 _ _ (fun q => by have z9 := fvw; rw [q] at z9; have := z9.symm.trans hY; first | cases this | simp at this) fvw
                replace fabb := khv18 _ _ (fun q => by have z9 := fabb; rw [q] at z9; have := z9.symm.trans hY; first | cases this | simp at this) fabb
                replace fkbb := khv18 _ _ (fun q => by have z9 := fkbb; rw [q] at z9; have := z9.symm.trans hY; first | cases this | simp at this) fkbb
                replace fvbb := khv18 _ _ (fun q => by have z9 := fvbb; rw [q] at z9; have := z9.symm.trans hY; first | cases this | simp at this) fvbb
                replace hY : hv18 y = some (.inr (8, [.ref ms, .ref mb, .ref (ra 28), .int gr, .int (nI 2), .int ca, .int mv, .ref od, .ref pt, .int ct, .int fau, .ref fi, .ref re, .int cs, .ref rc, .ref rs, .ref so, .ref ot, .ref cn, .ref la, .int ce, .ref ro, .int rn])) := by rw [ehv18]; exact qs_self
                clear ehv18
                replace fr := fun b o hb n1 n2 => khv18 b o n1 (fr b o hb n1 n2)
                refine lv_if_ne (tgt := 56) hx hb dX8_build_51 (by decide) (fun c51 => ?_) (fun c51 => ?_)
                · replace c51 : ¬ 0 = 0 := fun zq => c51 ((nI_eq (a := 0) (b := 0) (by omega) (by omega)).mpr zq)
                  exfalso; omega
                · replace c51 : 0 = 0 := (nI_eq (a := 0) (b := 0) (by omega) (by omega)).mp c51
                  refine lv_iconst (v := nI 0) hx hb dX8_build_54 (by decide) ?_
                  have ex : xs_build gr S (nI bb) (nI 1) p2 p3 = (2, S, 0) := by unfold xs_build; rw [if_neg (by simp [ebb, ebk]), ecb, if_pos c39]
                  obtain ⟨m9, f9⟩ := hM.fin0 hY0 (h' := hv18) ⟨hRw.1, hRw.2.1, hRw.2.2.1, faw, fkw, fvw⟩ fr
                  exact q_iret C hP hS ⟨by first | (rw [ex]; done) | (rw [ex]; rfl), by rw [ex]; exact hY, by first | exact m9 | (rw [ex]; exact m9), f9⟩ (by omega) dX8_build_55
              · refine lv_iconst (v := nI 1) hx hb dX8_build_42 (by decide) ?_
                refine lv_goto (tgt := 47) hx hb dX8_build_43 (by decide) ?_
                refine lv_iconst (v := nI 2) hx hb dX8_build_47 (by decide) ?_
                refine q_callV (rest := []) C (c_X8_good1 l D cy N0 hv17 y ms mb (ra 28) od pt fi re rc rs so ot cn la ro gr 0 ca mv ct fau cs ce rn (nI 2) hY) kX8_good g1249 g1251 rfl gp41 g4 hP hS hY (by first | decide | omega) hl.1 rfl (by decide) (by first | decide | omega) dX8_build_48 (fun q ce E h' H1 locs1 hE => hE.elim) (fun v hh21 H locs hq hP hS => ?_)
                obtain ⟨rfl, rfl⟩ := hq
                replace hP : qP D N0 (qs hv17 y (.inr (8, [.ref ms, .ref mb, .ref (ra 28), .int gr, .int 0, .int ca, .int mv, .ref od, .ref pt, .int ct, .int fau, .ref fi, .ref re, .int cs, .ref rc, .ref rs, .ref so, .ref ot, .ref cn, .ref la, .int ce, .ref ro, .int rn]))) H := hP
                obtain ⟨hv19, ehv19⟩ : ∃ z : qH, z = qs hv17 y (.inr (8, [.ref ms, .ref mb, .ref (ra 28), .int gr, .int 0, .int ca, .int mv, .ref od, .ref pt, .int ct, .int fau, .ref fi, .ref re, .int cs, .ref rc, .ref rs, .ref so, .ref ot, .ref cn, .ref la, .int ce, .ref ro, .int rn])) := ⟨_, rfl⟩
                rw [← ehv19] at hP
                have khv19 : ∀ b o, b ≠ y → hv17 b = some o → hv19 b = some o := by rw [ehv19]; exact fun b o nb hb => (qs_ne nb).trans hb
                replace hms := khv19 _ _ (fun q => by subst q; have := hms.symm.trans hY; first | cases this | simp at this) hms
                replace hmb := khv19 _ _ (fun q => by subst q; have := hmb.symm.trans hY; first | cases this | simp at this) hmb
                replace faw := khv19 _ _ (fun q => by have z9 := faw; rw [q] at z9; have := z9.symm.trans hY; first | cases this | simp at this) faw
                replace fkw := khv19 _ _ (fun q => by have z9 := fkw; rw [q] at z9; have := z9.symm.trans hY; first | cases this | simp at this) fkw
                replace fvw := khv19 _ _ (fun q => by have z9 := fvw; rw [q] at z9; have := z9.symm.trans hY; first | cases this | simp at this) fvw
                replace fabb := khv19 _ _ (fun q => by have z9 := fabb; rw [q] at z9; have := z9.symm.trans hY; first | cases this | simp at this) fabb
                replace fkbb := khv19 _ _ (fun q => by have z9 := fkbb; rw [q] at z9; have := z9.symm.trans hY; first | cases this | simp at this) fkbb
                replace fvbb := khv19 _ _ (fun q => by have z9 := fvbb; rw [q] at z9; have := z9.symm.trans hY; first | cases this | simp at this) fvbb
                replace hY : hv19 y = some (.inr (8, [.ref ms, .ref mb, .ref (ra 28), .int gr, .int 0, .int ca, .int mv, .ref od, .ref pt, .int ct, .int fau, .ref fi, .ref re, .int cs, .ref rc, .ref rs, .ref so, .ref ot, .ref cn, .ref la, .int ce, .ref ro, .int rn])) := by rw [ehv19]; exact qs_self
                clear ehv19
                replace fr := fun b o hb n1 n2 => khv19 b o n1 (fr b o hb n1 n2)
                refine lv_if_ne (tgt := 56) hx hb dX8_build_51 (by decide) (fun c51 => ?_) (fun c51 => ?_)
                · replace c51 : ¬ 1 = 0 := fun zq => c51 ((nI_eq (a := 1) (b := 0) (by omega) (by omega)).mpr zq)
                  refine lv_aload_n hx hb dX8_build_56 rfl (lv_at hl 0 rfl) ?_
                  refine q_get C hP hY rfl inX8 1 (by decide) g1168 rfl dX8_build_57 ?_
                  refine lv_iload_n hx hb dX8_build_60 rfl (lv_at hl 1 rfl) ?_
                  refine q_aaldR C hP hmb rfl (by omega) (by omega) rfl dX8_build_61 ?_
                  have awbb : qOf (ra (24 + bb)) (rk (24 + bb)) (rv (24 + bb)) (ra 28) ∧ qOf (ra (24 + bb)) (rk (24 + bb)) (rv (24 + bb)) (rk 28) ∧ qOf (ra (24 + bb)) (rk (24 + bb)) (rv (24 + bb)) (rv 28) := ⟨⟨Ne.symm apbb.1.1, Ne.symm apbb.2.1.1, Ne.symm apbb.2.2.1⟩, ⟨Ne.symm apbb.1.2.1, Ne.symm apbb.2.1.2.1, Ne.symm apbb.2.2.2.1⟩, ⟨Ne.symm apbb.1.2.2, Ne.symm apbb.2.1.2.2, Ne.symm apbb.2.2.2.2⟩⟩
                  refine lv_astore (lv' := [(7, .ref (ra (24 + bb))), (0, .ref y), (1, .int (nI bb)), (2, .int (nI 1)), (3, .long p2), (5, .long p3)]) hx hb dX8_build_62 hl (by decide) rfl (fun ls hl => ?_)
                  refine lv_aload hx hb dX8_build_64 (lv_at hl 0 rfl) ?_
                  refine q_get C hP fabb rfl inX7 2 (by decide) g1142 rfl dX8_build_66 ?_
                  refine lv_if_ne (tgt := 218) hx hb dX8_build_69 (by decide) (fun c69 => ?_) (fun c69 => ?_)
                  · refine lv_aload_n hx hb dX8_build_218 rfl (lv_at hl 1 rfl) ?_
                    refine lv_iload_n hx hb dX8_build_219 rfl (lv_at hl 3 rfl) ?_
                    refine lv_iconst (v := nI 1) hx hb dX8_build_220 (by decide) ?_
                    refine lv_icmp_eq (tgt := 228) hx hb dX8_build_221 (by decide) (fun c221 => ?_) (fun c221 => ?_)
                    · replace c221 : 1 = 1 := (nI_eq (a := 1) (b := 1) (by omega) (by omega)).mp c221
                      refine lv_iconst (v := nI 0) hx hb dX8_build_228 (by decide) ?_
                      refine lv_iconst (v := nI 3) hx hb dX8_build_229 (by decide) ?_
                      refine q_callV (rest := []) C (c_X8_good0 l D cy N0 hv19 y ms mb (ra 28) od pt fi re rc rs so ot cn la ro gr 0 ca mv ct fau cs ce rn (nI 3) hY) kX8_good g1249 g1251 rfl gp41 g4 hP hS hY (by first | decide | omega) hl.1 rfl (by decide) (by first | decide | omega) dX8_build_230 (fun q ce E h' H1 locs1 hE => hE.elim) (fun v hh22 H locs hq hP hS => ?_)
                      obtain ⟨rfl, rfl⟩ := hq
                      replace hP : qP D N0 (qs hv19 y (.inr (8, [.ref ms, .ref mb, .ref (ra 28), .int gr, .int (nI 3), .int ca, .int mv, .ref od, .ref pt, .int ct, .int fau, .ref fi, .ref re, .int cs, .ref rc, .ref rs, .ref so, .ref ot, .ref cn, .ref la, .int ce, .ref ro, .int rn]))) H := hP
                      obtain ⟨hv20, ehv20⟩ : ∃ z : qH, z = qs hv19 y (.inr (8, [.ref ms, .ref mb, .ref (ra 28), .int gr, .int (nI 3), .int ca, .int mv, .ref od, .ref pt, .int ct, .int fau, .ref fi, .ref re, .int cs, .ref rc, .ref rs, .ref so, .ref ot, .ref cn, .ref la, .int ce, .ref ro, .int rn])) := ⟨_, rfl⟩
                      rw [← ehv20] at hP
                      have khv20 : ∀ b o, b ≠ y → hv19 b = some o → hv20 b = some o := by rw [ehv20]; exact fun b o nb hb => (qs_ne nb).trans hb
                      replace hms := khv20 _ _ (fun q => by subst q; have := hms.symm.trans hY; first | cases this | simp at this) hms
                      replace hmb := khv20 _ _ (fun q => by subst q; have := hmb.symm.trans hY; first | cases this | simp at this) hmb
                      replace faw := khv20 _ _ (fun q => by have z9 := faw; rw [q] at z9; have := z9.symm.trans hY; first | cases this | simp at this) faw
                      replace fkw := khv20 _ _ (fun q => by have z9 := fkw; rw [q] at z9; have := z9.symm.trans hY; first | cases this | simp at this) fkw
                      replace fvw := khv20 _ _ (fun q => by have z9 := fvw; rw [q] at z9; have := z9.symm.trans hY; first | cases this | simp at this) fvw
                      replace fabb := khv20 _ _ (fun q => by have z9 := fabb; rw [q] at z9; have := z9.symm.trans hY; first | cases this | simp at this) fabb
                      replace fkbb := khv20 _ _ (fun q => by have z9 := fkbb; rw [q] at z9; have := z9.symm.trans hY; first | cases this | simp at this) fkbb
                      replace fvbb := khv20 _ _ (fun q => by have z9 := fvbb; rw [q] at z9; have := z9.symm.trans hY; first | cases this | simp at this) fvbb
                      replace hY : hv20 y = some (.inr (8, [.ref ms, .ref mb, .ref (ra 28), .int gr, .int (nI 3), .int ca, .int mv, .ref od, .ref pt, .int ct, .int fau, .ref fi, .ref re, .int cs, .ref rc, .ref rs, .ref so, .ref ot, .ref cn, .ref la, .int ce, .ref ro, .int rn])) := by rw [ehv20]; exact qs_self
                      clear ehv20
                      replace fr := fun b o hb n1 n2 => khv20 b o n1 (fr b o hb n1 n2)
                      refine lv_if_ne (tgt := 238) hx hb dX8_build_233 (by decide) (fun c233 => ?_) (fun c233 => ?_)
                      · replace c233 : ¬ 0 = 0 := fun zq => c233 ((nI_eq (a := 0) (b := 0) (by omega) (by omega)).mpr zq)
                        exfalso; omega
                      · replace c233 : 0 = 0 := (nI_eq (a := 0) (b := 0) (by omega) (by omega)).mp c233
                        refine lv_iconst (v := nI 0) hx hb dX8_build_236 (by decide) ?_
                        have ex : xs_build gr S (nI bb) (nI 1) p2 p3 = (3, S, 0) := by unfold xs_build; rw [if_neg (by simp [ebb, ebk]), ecb, if_neg c39, ecw, if_neg c69]; unfold xr_buildH; rw [if_pos rfl]
                        obtain ⟨m9, f9⟩ := hM.fin0 hY0 (h' := hv20) ⟨hRw.1, hRw.2.1, hRw.2.2.1, faw, fkw, fvw⟩ fr
                        exact q_iret C hP hS ⟨by first | (rw [ex]; done) | (rw [ex]; rfl), by rw [ex]; exact hY, by first | exact m9 | (rw [ex]; exact m9), f9⟩ (by omega) dX8_build_237
                    · replace c221 : ¬ 1 = 1 := fun zq => c221 ((nI_eq (a := 1) (b := 1) (by omega) (by omega)).mpr zq)
                      exfalso; omega
                  · refine lv_iload_n hx hb dX8_build_72 rfl (lv_at hl 3 rfl) ?_
                    refine lv_iconst (v := nI 1) hx hb dX8_build_73 (by decide) ?_
                    refine lv_icmp_ne (tgt := 107) hx hb dX8_build_74 (by decide) (fun c74 => ?_) (fun c74 => ?_)
                    · replace c74 : ¬ 1 = 1 := fun zq => c74 ((nI_eq (a := 1) (b := 1) (by omega) (by omega)).mpr zq)
                      exfalso; omega
                    · replace c74 : 1 = 1 := (nI_eq (a := 1) (b := 1) (by omega) (by omega)).mp c74
                      refine lv_aload_n hx hb dX8_build_77 rfl (lv_at hl 1 rfl) ?_
                      refine lv_lload_n hx hb dX8_build_78 rfl (lv_at hl 4 rfl) ?_
                      refine lv_lconst (v := 0) hx hb dX8_build_79 (by decide) ?_
                      refine W.lcmp hx hb dX8_build_80 ?_
                      refine lv_if_lt (tgt := 99) hx hb dX8_build_81 (by decide) (fun c81 => ?_) (fun c81 => ?_)
                      · replace c81 : p2.toInt < (0 : Int64).toInt := Int64.lt_iff_toInt_lt.mp ((lg_cmp_lt _ _).mp c81)
                        refine lv_iconst (v := nI 0) hx hb dX8_build_99 (by decide) ?_
                        refine lv_iconst (v := nI 4) hx hb dX8_build_100 (by decide) ?_
                        refine q_callV (rest := []) C (c_X8_good0 l D cy N0 hv19 y ms mb (ra 28) od pt fi re rc rs so ot cn la ro gr 0 ca mv ct fau cs ce rn (nI 4) hY) kX8_good g1249 g1251 rfl gp41 g4 hP hS hY (by first | decide | omega) hl.1 rfl (by decide) (by first | decide | omega) dX8_build_101 (fun q ce E h' H1 locs1 hE => hE.elim) (fun v hh23 H locs hq hP hS => ?_)
                        obtain ⟨rfl, rfl⟩ := hq
                        replace hP : qP D N0 (qs hv19 y (.inr (8, [.ref ms, .ref mb, .ref (ra 28), .int gr, .int (nI 4), .int ca, .int mv, .ref od, .ref pt, .int ct, .int fau, .ref fi, .ref re, .int cs, .ref rc, .ref rs, .ref so, .ref ot, .ref cn, .ref la, .int ce, .ref ro, .int rn]))) H := hP
                        obtain ⟨hv21, ehv21⟩ : ∃ z : qH, z = qs hv19 y (.inr (8, [.ref ms, .ref mb, .ref (ra 28), .int gr, .int (nI 4), .int ca, .int mv, .ref od, .ref pt, .int ct, .int fau, .ref fi, .ref re, .int cs, .ref rc, .ref rs, .ref so, .ref ot, .ref cn, .ref la, .int ce, .ref ro, .int rn])) := ⟨_, rfl⟩
                        rw [← ehv21] at hP
                        have khv21 : ∀ b o, b ≠ y → hv19 b = some o → hv21 b = some o := by rw [ehv21]; exact fun b o nb hb => (qs_ne nb).trans hb
                        replace hms := khv21 _ _ (fun q => by subst q; have := hms.symm.trans hY; first | cases this | simp at this) hms
                        replace hmb := khv21 _ _ (fun q => by subst q; have := hmb.symm.trans hY; first | cases this | simp at this) hmb
                        replace faw := khv21 _ _ (fun q => by have z9 := faw; rw [q] at z9; have := z9.symm.trans hY; first | cases this | simp at this) faw
                        replace fkw := khv21 _ _ (fun q => by have z9 := fkw; rw [q] at z9; have := z9.symm.trans hY; first | cases this | simp at this) fkw
                        replace fvw := khv21 _ _ (fun q => by have z9 := fvw; rw [q] at z9; have := z9.symm.trans hY; first | cases this | simp at this) fvw
                        replace fabb := khv21 _ _ (fun q => by have z9 := fabb; rw [q] at z9; have := z9.symm.trans hY; first | cases this | simp at this) fabb
                        replace fkbb := khv21 _ _ (fun q => by have z9 := fkbb; rw [q] at z9; have := z9.symm.trans hY; first | cases this | simp at this) fkbb
                        replace fvbb := khv21 _ _ (fun q => by have z9 := fvbb; rw [q] at z9; have := z9.symm.trans hY; first | cases this | simp at this) fvbb
                        replace hY : hv21 y = some (.inr (8, [.ref ms, .ref mb, .ref (ra 28), .int gr, .int (nI 4), .int ca, .int mv, .ref od, .ref pt, .int ct, .int fau, .ref fi, .ref re, .int cs, .ref rc, .ref rs, .ref so, .ref ot, .ref cn, .ref la, .int ce, .ref ro, .int rn])) := by rw [ehv21]; exact qs_self
                        clear ehv21
                        replace fr := fun b o hb n1 n2 => khv21 b o n1 (fr b o hb n1 n2)
                        refine lv_if_eq (tgt := 161) hx hb dX8_build_104 (by decide) (fun c104 => ?_) (fun c104 => ?_)
                        · replace c104 : 0 = 0 := (nI_eq (a := 0) (b := 0) (by omega) (by omega)).mp c104
                          refine lv_iconst (v := nI 0) hx hb dX8_build_161 (by decide) ?_
                          have el9 := q_i2l (n := nbb) (by omega)
                          have ex : xs_build gr S (nI bb) (nI 1) p2 p3 = (4, S, 0) := by unfold xs_build; rw [if_neg (by simp [ebb, ebk]), ecb, if_neg c39, ecw, if_pos c69]; unfold xr_buildS; rw [if_pos rfl, show (S (24 + bb)).2.1.length = nbb from (by rw [hLbb, qLs_len]), if_neg (fun z => by omega)]
                          obtain ⟨m9, f9⟩ := hM.fin0 hY0 (h' := hv21) ⟨hRw.1, hRw.2.1, hRw.2.2.1, faw, fkw, fvw⟩ fr
                          exact q_iret C hP hS ⟨by first | (rw [ex]; done) | (rw [ex]; rfl), by rw [ex]; exact hY, by first | exact m9 | (rw [ex]; exact m9), f9⟩ (by omega) dX8_build_162
                        · replace c104 : ¬ 0 = 0 := fun zq => c104 ((nI_eq (a := 0) (b := 0) (by omega) (by omega)).mpr zq)
                          exfalso; omega
                      · replace c81 : ¬ p2.toInt < (0 : Int64).toInt := fun zq => c81 ((lg_cmp_lt _ _).mpr (Int64.lt_iff_toInt_lt.mpr zq))
                        refine lv_lload_n hx hb dX8_build_84 rfl (lv_at hl 4 rfl) ?_
                        refine lv_aload hx hb dX8_build_85 (lv_at hl 0 rfl) ?_
                        refine q_get C hP fabb rfl inX7 3 (by decide) g1143 rfl dX8_build_87 ?_
                        refine lv_i2l hx hb dX8_build_90 rfl ?_
                        refine W.lcmp hx hb dX8_build_91 ?_
                        refine lv_if_ge (tgt := 99) hx hb dX8_build_92 (by decide) (fun c92 => ?_) (fun c92 => ?_)
                        · replace c92 : (((nI nbb)).toInt64).toInt ≤ p2.toInt := Int64.le_iff_toInt_le.mp ((lg_cmp_ge _ _).mp c92)
                          refine lv_iconst (v := nI 0) hx hb dX8_build_99 (by decide) ?_
                          refine lv_iconst (v := nI 4) hx hb dX8_build_100 (by decide) ?_
                          refine q_callV (rest := []) C (c_X8_good0 l D cy N0 hv19 y ms mb (ra 28) od pt fi re rc rs so ot cn la ro gr 0 ca mv ct fau cs ce rn (nI 4) hY) kX8_good g1249 g1251 rfl gp41 g4 hP hS hY (by first | decide | omega) hl.1 rfl (by decide) (by first | decide | omega) dX8_build_101 (fun q ce E h' H1 locs1 hE => hE.elim) (fun v hh24 H locs hq hP hS => ?_)
                          obtain ⟨rfl, rfl⟩ := hq
                          replace hP : qP D N0 (qs hv19 y (.inr (8, [.ref ms, .ref mb, .ref (ra 28), .int gr, .int (nI 4), .int ca, .int mv, .ref od, .ref pt, .int ct, .int fau, .ref fi, .ref re, .int cs, .ref rc, .ref rs, .ref so, .ref ot, .ref cn, .ref la, .int ce, .ref ro, .int rn]))) H := hP
                          obtain ⟨hv22, ehv22⟩ : ∃ z : qH, z = qs hv19 y (.inr (8, [.ref ms, .ref mb, .ref (ra 28), .int gr, .int (nI 4), .int ca, .int mv, .ref od, .ref pt, .int ct, .int fau, .ref fi, .ref re, .int cs, .ref rc, .ref rs, .ref so, .ref ot, .ref cn, .ref la, .int ce, .ref ro, .int rn])) := ⟨_, rfl⟩
                          rw [← ehv22] at hP
                          have khv22 : ∀ b o, b ≠ y → hv19 b = some o → hv22 b = some o := by rw [ehv22]; exact fun b o nb hb => (qs_ne nb).trans hb
                          replace hms := khv22 _ _ (fun q => by subst q; have := hms.symm.trans hY; first | cases this | simp at this) hms
                          replace hmb := khv22 _ _ (fun q => by subst q; have := hmb.symm.trans hY; first | cases this | simp at this) hmb
                          replace faw := khv22 _ _ (fun q => by have z9 := faw; rw [q] at z9; have := z9.symm.trans hY; first | cases this | simp at this) faw
                          replace fkw := khv22 _ _ (fun q => by have z9 := fkw; rw [q] at z9; have := z9.symm.trans hY; first | cases this | simp at this) fkw
                          replace fvw := khv22 _ _ (fun q => by have z9 := fvw; rw [q] at z9; have := z9.symm.trans hY; first | cases this | simp at this) fvw
                          replace fabb := khv22 _ _ (fun q => by have z9 := fabb; rw [q] at z9; have := z9.symm.trans hY; first | cases this | simp at this) fabb
                          replace fkbb := khv22 _ _ (fun q => by have z9 := fkbb; rw [q] at z9; have := z9.symm.trans hY; first | cases this | simp at this) fkbb
                          replace fvbb := khv22 _ _ (fun q => by have z9 := fvbb; rw [q] at z9; have := z9.symm.trans hY; first | cases this | simp at this) fvbb
                          replace hY : hv22 y = some (.inr (8, [.ref ms, .ref mb, .ref (ra 28), .int gr, .int (nI 4), .int ca, .int mv, .ref od, .ref pt, .int ct, .int fau, .ref fi, .ref re, .int cs, .ref rc, .ref rs, .ref so, .ref ot, .ref cn, .ref la, .int ce, .ref ro, .int rn])) := by rw [ehv22]; exact qs_self
                          clear ehv22
                          replace fr := fun b o hb n1 n2 => khv22 b o n1 (fr b o hb n1 n2)
                          refine lv_if_eq (tgt := 161) hx hb dX8_build_104 (by decide) (fun c104 => ?_) (fun c104 => ?_)
                          · replace c104 : 0 = 0 := (nI_eq (a := 0) (b := 0) (by omega) (by omega)).mp c104
                            refine lv_iconst (v := nI 0) hx hb dX8_build_161 (by decide) ?_
                            have el9 := q_i2l (n := nbb) (by omega)
                            have ex : xs_build gr S (nI bb) (nI 1) p2 p3 = (4, S, 0) := by unfold xs_build; rw [if_neg (by simp [ebb, ebk]), ecb, if_neg c39, ecw, if_pos c69]; unfold xr_buildS; rw [if_pos rfl, show (S (24 + bb)).2.1.length = nbb from (by rw [hLbb, qLs_len]), if_neg (fun z => by omega)]
                            obtain ⟨m9, f9⟩ := hM.fin0 hY0 (h' := hv22) ⟨hRw.1, hRw.2.1, hRw.2.2.1, faw, fkw, fvw⟩ fr
                            exact q_iret C hP hS ⟨by first | (rw [ex]; done) | (rw [ex]; rfl), by rw [ex]; exact hY, by first | exact m9 | (rw [ex]; exact m9), f9⟩ (by omega) dX8_build_162
                          · replace c104 : ¬ 0 = 0 := fun zq => c104 ((nI_eq (a := 0) (b := 0) (by omega) (by omega)).mpr zq)
                            exfalso; omega
                        · replace c92 : ¬ (((nI nbb)).toInt64).toInt ≤ p2.toInt := fun zq => c92 ((lg_cmp_ge _ _).mpr (Int64.le_iff_toInt_le.mpr zq))
                          refine lv_iconst (v := nI 1) hx hb dX8_build_95 (by decide) ?_
                          refine lv_goto (tgt := 100) hx hb dX8_build_96 (by decide) ?_
                          refine lv_iconst (v := nI 4) hx hb dX8_build_100 (by decide) ?_
                          refine q_callV (rest := []) C (c_X8_good1 l D cy N0 hv19 y ms mb (ra 28) od pt fi re rc rs so ot cn la ro gr 0 ca mv ct fau cs ce rn (nI 4) hY) kX8_good g1249 g1251 rfl gp41 g4 hP hS hY (by first | decide | omega) hl.1 rfl (by decide) (by first | decide | omega) dX8_build_101 (fun q ce E h' H1 locs1 hE => hE.elim) (fun v hh25 H locs hq hP hS => ?_)
                          obtain ⟨rfl, rfl⟩ := hq
                          replace hP : qP D N0 (qs hv19 y (.inr (8, [.ref ms, .ref mb, .ref (ra 28), .int gr, .int 0, .int ca, .int mv, .ref od, .ref pt, .int ct, .int fau, .ref fi, .ref re, .int cs, .ref rc, .ref rs, .ref so, .ref ot, .ref cn, .ref la, .int ce, .ref ro, .int rn]))) H := hP
                          obtain ⟨hv23, ehv23⟩ : ∃ z : qH, z = qs hv19 y (.inr (8, [.ref ms, .ref mb, .ref (ra 28), .int gr, .int 0, .int ca, .int mv, .ref od, .ref pt, .int ct, .int fau, .ref fi, .ref re, .int cs, .ref rc, .ref rs, .ref so, .ref ot, .ref cn, .ref la, .int ce, .ref ro, .int rn])) := ⟨_, rfl⟩
                          rw [← ehv23] at hP
                          have khv23 : ∀ b o, b ≠ y → hv19 b = some o → hv23 b = some o := by rw [ehv23]; exact fun b o nb hb => (qs_ne nb).trans hb
                          replace hms := khv23 _ _ (fun q => by subst q; have := hms.symm.trans hY; first | cases this | simp at this) hms
                          replace hmb := khv23 _ _ (fun q => by subst q; have := hmb.symm.trans hY; first | cases this | simp at this) hmb
                          replace faw := khv23 _ _ (fun q => by have z9 := faw; rw [q] at z9; have := z9.symm.trans hY; first | cases this | simp at this) faw
                          replace fkw := khv23 _ _ (fun q => by have z9 := fkw; rw [q] at z9; have := z9.symm.trans hY; first | cases this | simp at this) fkw
                          replace fvw := khv23 _ _ (fun q => by have z9 := fvw; rw [q] at z9; have := z9.symm.trans hY; first | cases this | simp at this) fvw
                          replace fabb := khv23 _ _ (fun q => by have z9 := fabb; rw [q] at z9; have := z9.symm.trans hY; first | cases this | simp at this) fabb
                          replace fkbb := khv23 _ _ (fun q => by have z9 := fkbb; rw [q] at z9; have := z9.symm.trans hY; first | cases this | simp at this) fkbb
                          replace fvbb := khv23 _ _ (fun q => by have z9 := fvbb; rw [q] at z9; have := z9.symm.trans hY; first | cases this | simp at this) fvbb
                          replace hY : hv23 y = some (.inr (8, [.ref ms, .ref mb, .ref (ra 28), .int gr, .int 0, .int ca, .int mv, .ref od, .ref pt, .int ct, .int fau, .ref fi, .ref re, .int cs, .ref rc, .ref rs, .ref so, .ref ot, .ref cn, .ref la, .int ce, .ref ro, .int rn])) := by rw [ehv23]; exact qs_self
                          clear ehv23
                          replace fr := fun b o hb n1 n2 => khv23 b o n1 (fr b o hb n1 n2)
                          refine lv_if_eq (tgt := 161) hx hb dX8_build_104 (by decide) (fun c104 => ?_) (fun c104 => ?_)
                          · replace c104 : 1 = 0 := (nI_eq (a := 1) (b := 0) (by omega) (by omega)).mp c104
                            exfalso; omega
                          · replace c104 : ¬ 1 = 0 := fun zq => c104 ((nI_eq (a := 1) (b := 0) (by omega) (by omega)).mpr zq)
                            refine lv_iload_n hx hb dX8_build_107 rfl (lv_at hl 3 rfl) ?_
                            refine lv_iconst (v := nI 2) hx hb dX8_build_108 (by decide) ?_
                            refine lv_icmp_ne (tgt := 133) hx hb dX8_build_109 (by decide) (fun c109 => ?_) (fun c109 => ?_)
                            · replace c109 : ¬ 1 = 2 := fun zq => c109 ((nI_eq (a := 1) (b := 2) (by omega) (by omega)).mpr zq)
                              refine lv_iload_n hx hb dX8_build_133 rfl (lv_at hl 3 rfl) ?_
                              refine lv_if_ne (tgt := 163) hx hb dX8_build_134 (by decide) (fun c134 => ?_) (fun c134 => ?_)
                              · replace c134 : ¬ 1 = 0 := fun zq => c134 ((nI_eq (a := 1) (b := 0) (by omega) (by omega)).mpr zq)
                                have lw := hLbb.symm
                                replace fr := fun b o hb n1 n2 (n3 : qOf (ra (24 + bb)) (rk (24 + bb)) (rv (24 + bb)) b) => fr b o hb n1 n2
                                have elen : (S (24 + bb)).2.1.length = nbb := by rw [hLbb, qLs_len]
                                refine lv_iload_n hx hb dX8_build_163 rfl (lv_at hl 3 rfl) ?_
                                refine lv_if_ne (tgt := 183) hx hb dX8_build_164 (by decide) (fun c164 => ?_) (fun c164 => ?_)
                                · replace c164 : ¬ 1 = 0 := fun zq => c164 ((nI_eq (a := 1) (b := 0) (by omega) (by omega)).mpr zq)
                                  refine lv_iload_n hx hb dX8_build_183 rfl (lv_at hl 3 rfl) ?_
                                  refine lv_iconst (v := nI 1) hx hb dX8_build_184 (by decide) ?_
                                  refine lv_icmp_ne (tgt := 201) hx hb dX8_build_185 (by decide) (fun c185 => ?_) (fun c185 => ?_)
                                  · replace c185 : ¬ 1 = 1 := fun zq => c185 ((nI_eq (a := 1) (b := 1) (by omega) (by omega)).mpr zq)
                                    exfalso; omega
                                  · replace c185 : 1 = 1 := (nI_eq (a := 1) (b := 1) (by omega) (by omega)).mp c185
                                    refine lv_aload hx hb dX8_build_188 (lv_at hl 0 rfl) ?_
                                    refine q_get C hP fabb rfl inX7 0 (by decide) g1138 rfl dX8_build_190 ?_
                                    refine lv_lload_n hx hb dX8_build_193 rfl (lv_at hl 4 rfl) ?_
                                    have el9 := q_i2l (n := nbb) (by omega)
                                    obtain ⟨q, hq9⟩ : ∃ q : Nat, p2.toInt = q := ⟨p2.toInt.toNat, by omega⟩
                                    refine lv_l2i hx hb dX8_build_194 rfl ?_
                                    rw [q_l2i hq9 (by omega)]
                                    refine lv_lload hx hb dX8_build_195 (lv_at hl 5 rfl) ?_
                                    refine q_lastN C hP hS fkbb (by omega) (by omega) dX8_build_197 (fun H locs hP hS => ?_)
                                    obtain ⟨hv24, ehv24⟩ : ∃ z : qH, z = qs hv23 (rk (24 + bb)) (.inl (cy 1, 1001, .inr (.inl (vp_updL Fbb q p3)))) := ⟨_, rfl⟩
                                    rw [← ehv24] at hP
                                    have khv24 : ∀ b o, b ≠ (rk (24 + bb)) → hv23 b = some o → hv24 b = some o := by rw [ehv24]; exact fun b o nb hb => (qs_ne nb).trans hb
                                    replace hY := khv24 _ _ (fun q => by have z9 := hY; rw [q] at z9; have := z9.symm.trans fkbb; first | cases this | simp at this) hY
                                    replace hms := khv24 _ _ (fun q => by have z9 := hms; rw [q] at z9; have := z9.symm.trans fkbb; first | cases this | simp at this) hms
                                    replace hmb := khv24 _ _ (fun q => by have z9 := hmb; rw [q] at z9; have := z9.symm.trans fkbb; first | cases this | simp at this) hmb
                                    replace faw := khv24 _ _ (Ne.symm apbb.2.1.1) faw
                                    replace fkw := khv24 _ _ (Ne.symm apbb.2.1.2.1) fkw
                                    replace fvw := khv24 _ _ (Ne.symm apbb.2.1.2.2) fvw
                                    replace fabb := khv24 _ _ (fun q => by have z9 := fabb; rw [q] at z9; have := z9.symm.trans fkbb; first | cases this | simp at this) fabb
                                    replace fvbb := khv24 _ _ hRbb.1.symm fvbb
                                    replace fkbb : hv24 (rk (24 + bb)) = some (.inl (cy 1, 1001, .inr (.inl (vp_updL Fbb q p3)))) := by rw [ehv24]; exact qs_self
                                    clear ehv24
                                    replace fr := fun b o hb n1 n2 n3 => khv24 b o n3.2.1 (fr b o hb n1 n2 n3)
                                    refine lv_goto (tgt := 212) hx hb dX8_build_198 (by decide) ?_
                                    refine lv_aload hx hb dX8_build_212 (lv_at hl 0 rfl) ?_
                                    refine q_get C hP fabb rfl inX7 3 (by decide) g1143 rfl dX8_build_214 ?_
                                    have ex : xs_build gr S (nI bb) (nI 1) p2 p3 = (0, qU S (24 + bb) ((S (24 + bb)).1, ((S (24 + bb)).2.1.set p2.toInt.toNat (p3, 0)), (S (24 + bb)).2.2), nI nbb) := by unfold xs_build; rw [if_neg (by simp [ebb, ebk]), ecb, if_neg c39, ecw, if_pos c69]; unfold xr_buildS; rw [if_pos rfl, show (S (24 + bb)).2.1.length = nbb from (by rw [hLbb, qLs_len]), if_pos (by omega)]
                                    obtain ⟨m9, f9⟩ := hM.fin hY0 (i := (24 + bb)) (by omega) (s := ((S (24 + bb)).1, ((S (24 + bb)).2.1.set p2.toInt.toNat (p3, 0)), (S (24 + bb)).2.2)) ⟨nbb, _, _, _, ⟨hRbb.1, hRbb.2.1, hRbb.2.2.1, fabb, fkbb, fvbb⟩, by omega, by rw [hLbb, qLs_setk (by omega), hq9, show ((q : Int)).toNat = q from rfl, show xV (S (24 + bb)).1 (Gbb q) = 0 from (by unfold xV; rw [if_neg (by rw [c69]; decide)])], by first | exact Or.inl rfl | exact xRo.mv (by omega) hKj | exact xRo.bl (by omega) hKbb⟩ ⟨hRw.1, hRw.2.1, hRw.2.2.1, faw, fkw, fvw⟩ fr
                                    exact q_iret C hP hS ⟨by first | (rw [ex]; done) | (rw [ex]; rfl), by rw [ex]; exact hY, by rw [ex]; exact m9, f9⟩ (by omega) dX8_build_217
                                · replace c164 : 1 = 0 := (nI_eq (a := 1) (b := 0) (by omega) (by omega)).mp c164
                                  exfalso; omega
                              · replace c134 : 1 = 0 := (nI_eq (a := 1) (b := 0) (by omega) (by omega)).mp c134
                                exfalso; omega
                            · replace c109 : 1 = 2 := (nI_eq (a := 1) (b := 2) (by omega) (by omega)).mp c109
                              exfalso; omega
                · replace c51 : 1 = 0 := (nI_eq (a := 1) (b := 0) (by omega) (by omega)).mp c51
                  exfalso; omega
          · refine lv_iconst (v := nI 1) hx hb dX8_build_17 (by decide) ?_
            refine lv_goto (tgt := 22) hx hb dX8_build_18 (by decide) ?_
            refine lv_iconst (v := nI 1) hx hb dX8_build_22 (by decide) ?_
            refine q_callV (rest := []) C (c_X8_good1 l D cy N0 h y ms mb (ra 28) od pt fi re rc rs so ot cn la ro gr cd ca mv ct fau cs ce rn (nI 1) hY) kX8_good g1249 g1251 rfl gp41 g4 hP hS hY (by first | decide | omega) hl.1 rfl (by decide) (by first | decide | omega) dX8_build_23 (fun q ce E h' H1 locs1 hE => hE.elim) (fun v hh26 H locs hq hP hS => ?_)
            obtain ⟨rfl, rfl⟩ := hq
            replace hP : qP D N0 (qs h y (.inr (8, [.ref ms, .ref mb, .ref (ra 28), .int gr, .int 0, .int ca, .int mv, .ref od, .ref pt, .int ct, .int fau, .ref fi, .ref re, .int cs, .ref rc, .ref rs, .ref so, .ref ot, .ref cn, .ref la, .int ce, .ref ro, .int rn]))) H := hP
            obtain ⟨hv25, ehv25⟩ : ∃ z : qH, z = qs h y (.inr (8, [.ref ms, .ref mb, .ref (ra 28), .int gr, .int 0, .int ca, .int mv, .ref od, .ref pt, .int ct, .int fau, .ref fi, .ref re, .int cs, .ref rc, .ref rs, .ref so, .ref ot, .ref cn, .ref la, .int ce, .ref ro, .int rn])) := ⟨_, rfl⟩
            rw [← ehv25] at hP
            have khv25 : ∀ b o, b ≠ y → h b = some o → hv25 b = some o := by rw [ehv25]; exact fun b o nb hb => (qs_ne nb).trans hb
            replace hms := khv25 _ _ (fun q => by subst q; have := hms.symm.trans hY; first | cases this | simp at this) hms
            replace hmb := khv25 _ _ (fun q => by subst q; have := hmb.symm.trans hY; first | cases this | simp at this) hmb
            replace faw := khv25 _ _ (fun q => by have z9 := faw; rw [q] at z9; have := z9.symm.trans hY; first | cases this | simp at this) faw
            replace fkw := khv25 _ _ (fun q => by have z9 := fkw; rw [q] at z9; have := z9.symm.trans hY; first | cases this | simp at this) fkw
            replace fvw := khv25 _ _ (fun q => by have z9 := fvw; rw [q] at z9; have := z9.symm.trans hY; first | cases this | simp at this) fvw
            replace hY : hv25 y = some (.inr (8, [.ref ms, .ref mb, .ref (ra 28), .int gr, .int 0, .int ca, .int mv, .ref od, .ref pt, .int ct, .int fau, .ref fi, .ref re, .int cs, .ref rc, .ref rs, .ref so, .ref ot, .ref cn, .ref la, .int ce, .ref ro, .int rn])) := by rw [ehv25]; exact qs_self
            clear ehv25
            replace fr := fun b o hb n1 n2 => khv25 b o n1 (fr b o hb n1 n2)
            refine lv_if_eq (tgt := 54) hx hb dX8_build_26 (by decide) (fun c26 => ?_) (fun c26 => ?_)
            · replace c26 : 1 = 0 := (nI_eq (a := 1) (b := 0) (by omega) (by omega)).mp c26
              exfalso; omega
            · replace c26 : ¬ 1 = 0 := fun zq => c26 ((nI_eq (a := 1) (b := 0) (by omega) (by omega)).mpr zq)
              refine lv_aload_n hx hb dX8_build_29 rfl (lv_at hl 0 rfl) ?_
              refine lv_aload_n hx hb dX8_build_30 rfl (lv_at hl 0 rfl) ?_
              refine q_get C hP hY rfl inX8 1 (by decide) g1168 rfl dX8_build_31 ?_
              refine lv_iload_n hx hb dX8_build_34 rfl (lv_at hl 1 rfl) ?_
              refine q_aaldR C hP hmb rfl (by omega) (by omega) rfl dX8_build_35 ?_
              obtain ⟨nbb, rwbb, Fbb, Gbb, hRbb, hnbb, hLbb, hKbb⟩ := hrs (24 + bb) (by omega)
              have apbb := hRbb.apart hRw (hmd.two (i := (24 + bb)) (j := 28) (by omega) (by omega) (by omega))
              replace hRbb := hRbb.keep2 (fun b o hb ho => fr b o ho (hRbb.ney hY0 hb) (hb.elim (fun q => q ▸ apbb.1) (fun hb => hb.elim (fun q => q ▸ apbb.2.1) (fun q => q ▸ apbb.2.2))))
              have fabb := hRbb.2.2.2.1
              have fkbb := hRbb.2.2.2.2.1
              have fvbb := hRbb.2.2.2.2.2
              unfold qRb at fabb
              unfold qJr at fkbb fvbb
              refine q_get C hP fabb rfl inX7 2 (by decide) g1142 rfl dX8_build_36 ?_
              refine lv_if_lt (tgt := 46) hx hb dX8_build_39 (by decide) (fun c39 => ?_) (fun c39 => ?_)
              · refine lv_iconst (v := nI 0) hx hb dX8_build_46 (by decide) ?_
                refine lv_iconst (v := nI 2) hx hb dX8_build_47 (by decide) ?_
                refine q_callV (rest := []) C (c_X8_good0 l D cy N0 hv25 y ms mb (ra 28) od pt fi re rc rs so ot cn la ro gr 0 ca mv ct fau cs ce rn (nI 2) hY) kX8_good g1249 g1251 rfl gp41 g4 hP hS hY (by first | decide | omega) hl.1 rfl (by decide) (by first | decide | omega) dX8_build_48 (fun q ce E h' H1 locs1 hE => hE.elim) (fun v hh27 H locs hq hP hS => ?_)
                obtain ⟨rfl, rfl⟩ := hq
                replace hP : qP D N0 (qs hv25 y (.inr (8, [.ref ms, .ref mb, .ref (ra 28), .int gr, .int (nI 2), .int ca, .int mv, .ref od, .ref pt, .int ct, .int fau, .ref fi, .ref re, .int cs, .ref rc, .ref rs, .ref so, .ref ot, .ref cn, .ref la, .int ce, .ref ro, .int rn]))) H := hP
                obtain ⟨hv26, ehv26⟩ : ∃ z : qH, z = qs hv25 y (.inr (8, [.ref ms, .ref mb, .ref (ra 28), .int gr, .int (nI 2), .int ca, .int mv, .ref od, .ref pt, .int ct, .int fau, .ref fi, .ref re, .int cs, .ref rc, .ref rs, .ref so, .ref ot, .ref cn, .ref la, .int ce, .ref ro, .int rn])) := ⟨_, rfl⟩
                rw [← ehv26] at hP
                have khv26 : ∀ b o, b ≠ y → hv25 b = some o → hv26 b = some o := by rw [ehv26]; exact fun b o nb hb => (qs_ne nb).trans hb
                replace hms := khv26 _ _ (fun q => by subst q; have := hms.symm.trans hY; first | cases this | simp at this) hms
                replace hmb := khv26 _ _ (fun q => by subst q; have := hmb.symm.trans hY; first | cases this | simp at this) hmb
                replace faw := khv26 _ _ (fun q => by have z9 := faw; rw [q] at z9; have := z9.symm.trans hY; first | cases this | simp at this) faw
                replace fkw := khv26 _ _ (fun q => by have z9 := fkw; rw [q] at z9; have := z9.symm.trans hY; first | cases this | simp at this) fkw
                replace fvw := khv26 _ _ (fun q => by have z9 := fvw; rw [q] at z9; have := z9.symm.trans hY; first | cases this | simp at this) fvw
                replace fabb := khv26 _ _ (fun q => by have z9 := fabb; rw [q] at z9; have := z9.symm.trans hY; first | cases this | simp at this) fabb
                replace fkbb := khv26 _ _ (fun q => by have z9 := fkbb; rw [q] at z9; have := z9.symm.trans hY; first | cases this | simp at this) fkbb
                replace fvbb := khv26 _ _ (fun q => by have z9 := fvbb; rw [q] at z9; have := z9.symm.trans hY; first | cases this | simp at this) fvbb
                replace hY : hv26 y = some (.inr (8, [.ref ms, .ref mb, .ref (ra 28), .int gr, .int (nI 2), .int ca, .int mv, .ref od, .ref pt, .int ct, .int fau, .ref fi, .ref re, .int cs, .ref rc, .ref rs, .ref so, .ref ot, .ref cn, .ref la, .int ce, .ref ro, .int rn])) := by rw [ehv26]; exact qs_self
                clear ehv26
                replace fr := fun b o hb n1 n2 => khv26 b o n1 (fr b o hb n1 n2)
                refine lv_if_ne (tgt := 56) hx hb dX8_build_51 (by decide) (fun c51 => ?_) (fun c51 => ?_)
                · replace c51 : ¬ 0 = 0 := fun zq => c51 ((nI_eq (a := 0) (b := 0) (by omega) (by omega)).mpr zq)
                  exfalso; omega
                · replace c51 : 0 = 0 := (nI_eq (a := 0) (b := 0) (by omega) (by omega)).mp c51
                  refine lv_iconst (v := nI 0) hx hb dX8_build_54 (by decide) ?_
                  have ex : xs_build gr S (nI bb) (nI 2) p2 p3 = (2, S, 0) := by unfold xs_build; rw [if_neg (by simp [ebb, ebk]), ecb, if_pos c39]
                  obtain ⟨m9, f9⟩ := hM.fin0 hY0 (h' := hv26) ⟨hRw.1, hRw.2.1, hRw.2.2.1, faw, fkw, fvw⟩ fr
                  exact q_iret C hP hS ⟨by first | (rw [ex]; done) | (rw [ex]; rfl), by rw [ex]; exact hY, by first | exact m9 | (rw [ex]; exact m9), f9⟩ (by omega) dX8_build_55
              · refine lv_iconst (v := nI 1) hx hb dX8_build_42 (by decide) ?_
                refine lv_goto (tgt := 47) hx hb dX8_build_43 (by decide) ?_
                refine lv_iconst (v := nI 2) hx hb dX8_build_47 (by decide) ?_
                refine q_callV (rest := []) C (c_X8_good1 l D cy N0 hv25 y ms mb (ra 28) od pt fi re rc rs so ot cn la ro gr 0 ca mv ct fau cs ce rn (nI 2) hY) kX8_good g1249 g1251 rfl gp41 g4 hP hS hY (by first | decide | omega) hl.1 rfl (by decide) (by first | decide | omega) dX8_build_48 (fun q ce E h' H1 locs1 hE => hE.elim) (fun v hh28 H locs hq hP hS => ?_)
                obtain ⟨rfl, rfl⟩ := hq
                replace hP : qP D N0 (qs hv25 y (.inr (8, [.ref ms, .ref mb, .ref (ra 28), .int gr, .int 0, .int ca, .int mv, .ref od, .ref pt, .int ct, .int fau, .ref fi, .ref re, .int cs, .ref rc, .ref rs, .ref so, .ref ot, .ref cn, .ref la, .int ce, .ref ro, .int rn]))) H := hP
                obtain ⟨hv27, ehv27⟩ : ∃ z : qH, z = qs hv25 y (.inr (8, [.ref ms, .ref mb, .ref (ra 28), .int gr, .int 0, .int ca, .int mv, .ref od, .ref pt, .int ct, .int fau, .ref fi, .ref re, .int cs, .ref rc, .ref rs, .ref so, .ref ot, .ref cn, .ref la, .int ce, .ref ro, .int rn])) := ⟨_, rfl⟩
                rw [← ehv27] at hP
                have khv27 : ∀ b o, b ≠ y → hv25 b = some o → hv27 b = some o := by rw [ehv27]; exact fun b o nb hb => (qs_ne nb).trans hb
                replace hms := khv27 _ _ (fun q => by subst q; have := hms.symm.trans hY; first | cases this | simp at this) hms
                replace hmb := khv27 _ _ (fun q => by subst q; have := hmb.symm.trans hY; first | cases this | simp at this) hmb
                replace faw := khv27 _ _ (fun q => by have z9 := faw; rw [q] at z9; have := z9.symm.trans hY; first | cases this | simp at this) faw
                replace fkw := khv27 _ _ (fun q => by have z9 := fkw; rw [q] at z9; have := z9.symm.trans hY; first | cases this | simp at this) fkw
                replace fvw := khv27 _ _ (fun q => by have z9 := fvw; rw [q] at z9; have := z9.symm.trans hY; first | cases this | simp at this) fvw
                replace fabb := khv27 _ _ (fun q => by have z9 := fabb; rw [q] at z9; have := z9.symm.trans hY; first | cases this | simp at this) fabb
                replace fkbb := khv27 _ _ (fun q => by have z9 := fkbb; rw [q] at z9; have := z9.symm.trans hY; first | cases this | simp at this) fkbb
                replace fvbb := khv27 _ _ (fun q => by have z9 := fvbb; rw [q] at z9; have := z9.symm.trans hY; first | cases this | simp at this) fvbb
                replace hY : hv27 y = some (.inr (8, [.ref ms, .ref mb, .ref (ra 28), .int gr, .int 0, .int ca, .int mv, .ref od, .ref pt, .int ct, .int fau, .ref fi, .ref re, .int cs, .ref rc, .ref rs, .ref so, .ref ot, .ref cn, .ref la, .int ce, .ref ro, .int rn])) := by rw [ehv27]; exact qs_self
                clear ehv27
                replace fr := fun b o hb n1 n2 => khv27 b o n1 (fr b o hb n1 n2)
                refine lv_if_ne (tgt := 56) hx hb dX8_build_51 (by decide) (fun c51 => ?_) (fun c51 => ?_)
                · replace c51 : ¬ 1 = 0 := fun zq => c51 ((nI_eq (a := 1) (b := 0) (by omega) (by omega)).mpr zq)
                  refine lv_aload_n hx hb dX8_build_56 rfl (lv_at hl 0 rfl) ?_
                  refine q_get C hP hY rfl inX8 1 (by decide) g1168 rfl dX8_build_57 ?_
                  refine lv_iload_n hx hb dX8_build_60 rfl (lv_at hl 1 rfl) ?_
                  refine q_aaldR C hP hmb rfl (by omega) (by omega) rfl dX8_build_61 ?_
                  have awbb : qOf (ra (24 + bb)) (rk (24 + bb)) (rv (24 + bb)) (ra 28) ∧ qOf (ra (24 + bb)) (rk (24 + bb)) (rv (24 + bb)) (rk 28) ∧ qOf (ra (24 + bb)) (rk (24 + bb)) (rv (24 + bb)) (rv 28) := ⟨⟨Ne.symm apbb.1.1, Ne.symm apbb.2.1.1, Ne.symm apbb.2.2.1⟩, ⟨Ne.symm apbb.1.2.1, Ne.symm apbb.2.1.2.1, Ne.symm apbb.2.2.2.1⟩, ⟨Ne.symm apbb.1.2.2, Ne.symm apbb.2.1.2.2, Ne.symm apbb.2.2.2.2⟩⟩
                  refine lv_astore (lv' := [(7, .ref (ra (24 + bb))), (0, .ref y), (1, .int (nI bb)), (2, .int (nI 2)), (3, .long p2), (5, .long p3)]) hx hb dX8_build_62 hl (by decide) rfl (fun ls hl => ?_)
                  refine lv_aload hx hb dX8_build_64 (lv_at hl 0 rfl) ?_
                  refine q_get C hP fabb rfl inX7 2 (by decide) g1142 rfl dX8_build_66 ?_
                  refine lv_if_ne (tgt := 218) hx hb dX8_build_69 (by decide) (fun c69 => ?_) (fun c69 => ?_)
                  · refine lv_aload_n hx hb dX8_build_218 rfl (lv_at hl 1 rfl) ?_
                    refine lv_iload_n hx hb dX8_build_219 rfl (lv_at hl 3 rfl) ?_
                    refine lv_iconst (v := nI 1) hx hb dX8_build_220 (by decide) ?_
                    refine lv_icmp_eq (tgt := 228) hx hb dX8_build_221 (by decide) (fun c221 => ?_) (fun c221 => ?_)
                    · replace c221 : 2 = 1 := (nI_eq (a := 2) (b := 1) (by omega) (by omega)).mp c221
                      exfalso; omega
                    · replace c221 : ¬ 2 = 1 := fun zq => c221 ((nI_eq (a := 2) (b := 1) (by omega) (by omega)).mpr zq)
                      refine lv_iconst (v := nI 1) hx hb dX8_build_224 (by decide) ?_
                      refine lv_goto (tgt := 229) hx hb dX8_build_225 (by decide) ?_
                      refine lv_iconst (v := nI 3) hx hb dX8_build_229 (by decide) ?_
                      refine q_callV (rest := []) C (c_X8_good1 l D cy N0 hv27 y ms mb (ra 28) od pt fi re rc rs so ot cn la ro gr 0 ca mv ct fau cs ce rn (nI 3) hY) kX8_good g1249 g1251 rfl gp41 g4 hP hS hY (by first | decide | omega) hl.1 rfl (by decide) (by first | decide | omega) dX8_build_230 (fun q ce E h' H1 locs1 hE => hE.elim) (fun v hh29 H locs hq hP hS => ?_)
                      obtain ⟨rfl, rfl⟩ := hq
                      replace hP : qP D N0 (qs hv27 y (.inr (8, [.ref ms, .ref mb, .ref (ra 28), .int gr, .int 0, .int ca, .int mv, .ref od, .ref pt, .int ct, .int fau, .ref fi, .ref re, .int cs, .ref rc, .ref rs, .ref so, .ref ot, .ref cn, .ref la, .int ce, .ref ro, .int rn]))) H := hP
                      obtain ⟨hv28, ehv28⟩ : ∃ z : qH, z = qs hv27 y (.inr (8, [.ref ms, .ref mb, .ref (ra 28), .int gr, .int 0, .int ca, .int mv, .ref od, .ref pt, .int ct, .int fau, .ref fi, .ref re, .int cs, .ref rc, .ref rs, .ref so, .ref ot, .ref cn, .ref la, .int ce, .ref ro, .int rn])) := ⟨_, rfl⟩
                      rw [← ehv28] at hP
                      have khv28 : ∀ b o, b ≠ y → hv27 b = some o → hv28 b = some o := by rw [ehv28]; exact fun b o nb hb => (qs_ne nb).trans hb
                      replace hms := khv28 _ _ (fun q => by subst q; have := hms.symm.trans hY; first | cases this | simp at this) hms
                      replace hmb := khv28 _ _ (fun q => by subst q; have := hmb.symm.trans hY; first | cases this | simp at this) hmb
                      replace faw := khv28 _ _ (fun q => by have z9 := faw; rw [q] at z9; have := z9.symm.trans hY; first | cases this | simp at this) faw
                      replace fkw := khv28 _ _ (fun q => by have z9 := fkw; rw [q] at z9; have := z9.symm.trans hY; first | cases this | simp at this) fkw
                      replace fvw := khv28 _ _ (fun q => by have z9 := fvw; rw [q] at z9; have := z9.symm.trans hY; first | cases this | simp at this) fvw
                      replace fabb := khv28 _ _ (fun q => by have z9 := fabb; rw [q] at z9; have := z9.symm.trans hY; first | cases this | simp at this) fabb
                      replace fkbb := khv28 _ _ (fun q => by have z9 := fkbb; rw [q] at z9; have := z9.symm.trans hY; first | cases this | simp at this) fkbb
                      replace fvbb := khv28 _ _ (fun q => by have z9 := fvbb; rw [q] at z9; have := z9.symm.trans hY; first | cases this | simp at this) fvbb
                      replace hY : hv28 y = some (.inr (8, [.ref ms, .ref mb, .ref (ra 28), .int gr, .int 0, .int ca, .int mv, .ref od, .ref pt, .int ct, .int fau, .ref fi, .ref re, .int cs, .ref rc, .ref rs, .ref so, .ref ot, .ref cn, .ref la, .int ce, .ref ro, .int rn])) := by rw [ehv28]; exact qs_self
                      clear ehv28
                      replace fr := fun b o hb n1 n2 => khv28 b o n1 (fr b o hb n1 n2)
                      refine lv_if_ne (tgt := 238) hx hb dX8_build_233 (by decide) (fun c233 => ?_) (fun c233 => ?_)
                      · replace c233 : ¬ 1 = 0 := fun zq => c233 ((nI_eq (a := 1) (b := 0) (by omega) (by omega)).mpr zq)
                        have elen : (S (24 + bb)).2.1.length = nbb := by rw [hLbb, qLs_len]
                        refine lv_aload hx hb dX8_build_238 (lv_at hl 0 rfl) ?_
                        refine lv_lload_n hx hb dX8_build_240 rfl (lv_at hl 4 rfl) ?_
                        refine q_callS (rest := []) C (c_X8_find l D cy N0 hv28 (ra (24 + bb)) (rk (24 + bb)) (rv (24 + bb)) ((S (24 + bb)).1) (nI (S (24 + bb)).2.2.1) (nI (S (24 + bb)).2.2.2) rwbb nbb Fbb Gbb p2 ⟨hRbb.1, hRbb.2.1, hRbb.2.2.1, fabb, fkbb, fvbb⟩ (by omega)) kX8_find g1279 g1280 hP hS (by first | decide | omega) hl.1 rfl (by decide) (by first | decide | omega) dX8_build_241 (fun q ce E h' H1 locs1 hE => hE.elim) (fun v hh30 H locs hq hP hS => ?_)
                        obtain ⟨rfl, hq⟩ := hq
                        rcases hq with ⟨j8, rfl, hj8, e8, m8⟩ | ⟨rfl, m8⟩
                        · have hx8 := xHas_t (kd := (S (24 + bb)).1) (g := Gbb) hj8 e8
                          rw [← hLbb] at hx8
                          refine lv_istore (lv' := [(8, .int (nI j8)), (7, .ref (ra (24 + bb))), (0, .ref y), (1, .int (nI bb)), (2, .int (nI 2)), (3, .long p2), (5, .long p3)]) hx hb dX8_build_244 hl (by decide) rfl (fun ls hl => ?_)
                          refine lv_iload_n hx hb dX8_build_246 rfl (lv_at hl 4 rfl) ?_
                          refine lv_if_ne (tgt := 303) hx hb dX8_build_247 (by decide) (fun c247 => ?_) (fun c247 => ?_)
                          · replace c247 : ¬ 2 = 0 := fun zq => c247 ((nI_eq (a := 2) (b := 0) (by omega) (by omega)).mpr zq)
                            refine lv_iload hx hb dX8_build_303 (lv_at hl 0 rfl) ?_
                            refine lv_if_lt (tgt := 315) hx hb dX8_build_305 (by decide) (fun c305 => ?_) (fun c305 => ?_)
                            · replace c305 : j8 < 0 := (nI_ltI (a := j8) (b := 0) (by omega) (by omega)).mp c305
                              exfalso; omega
                            · replace c305 : ¬ j8 < 0 := fun zq => c305 ((nI_ltI (a := j8) (b := 0) (by omega) (by omega)).mpr zq)
                              have lw := hLbb.symm
                              replace fr := fun b o hb n1 n2 (n3 : qOf (ra (24 + bb)) (rk (24 + bb)) (rv (24 + bb)) b) => fr b o hb n1 n2
                              refine lv_aload hx hb dX8_build_308 (lv_at hl 1 rfl) ?_
                              refine lv_iload hx hb dX8_build_310 (lv_at hl 0 rfl) ?_
                              refine q_callS (rest := []) C (c_X8_remove l D cy N0 hv28 (ra (24 + bb)) (rk (24 + bb)) (rv (24 + bb)) ((S (24 + bb)).1) (nI (S (24 + bb)).2.2.1) (nI (S (24 + bb)).2.2.2) rwbb nbb Fbb Gbb j8 ⟨hRbb.1, hRbb.2.1, hRbb.2.2.1, fabb, fkbb, fvbb⟩ (by omega) (by omega)) kX8_remove g1386 g1387 hP hS (by first | decide | omega) hl.1 rfl (by decide) (by first | decide | omega) dX8_build_312 (fun q ce E h' H1 locs1 hE => hE.elim) (fun v hh31 H locs hq hP hS => ?_)
                              obtain ⟨rfl, rfl⟩ := hq
                              obtain ⟨hv29, ehv29⟩ : ∃ z : qH, z = qRh cy hv28 (ra (24 + bb)) (rk (24 + bb)) (rv (24 + bb)) ((S (24 + bb)).1) (nI (nbb - 1)) (nI (S (24 + bb)).2.2.1) (nI (S (24 + bb)).2.2.2) rwbb (qSd Fbb j8 (nbb - 1)) (qSd Gbb j8 (nbb - 1)) := ⟨_, rfl⟩
                              rw [← ehv29] at hP
                              have r9 : qRw cy hv29 (ra (24 + bb)) (rk (24 + bb)) (rv (24 + bb)) ((S (24 + bb)).1) (nI (nbb - 1)) (nI (S (24 + bb)).2.2.1) (nI (S (24 + bb)).2.2.2) rwbb (qSd Fbb j8 (nbb - 1)) (qSd Gbb j8 (nbb - 1)) := by rw [ehv29]; exact qRw.new (cy := cy) (h := hv28) (kd := (S (24 + bb)).1) (n := (nI nbb)) (sm := (nI (S (24 + bb)).2.2.1)) (dp := (nI (S (24 + bb)).2.2.2)) (rw := rwbb) (f := Fbb) (g := Gbb) ⟨hRbb.1, hRbb.2.1, hRbb.2.2.1, fabb, fkbb, fvbb⟩
                              have khv29 : ∀ b o, qOf (ra (24 + bb)) (rk (24 + bb)) (rv (24 + bb)) b → hv28 b = some o → hv29 b = some o := by rw [ehv29]; exact fun b o q hb => (qRh_o q.1 q.2.1 q.2.2).trans hb
                              replace hY := khv29 _ _ ⟨fun q => by rw [q] at hY; have := fabb.symm.trans hY; first | cases this | simp at this, fun q => by rw [q] at hY; have := fkbb.symm.trans hY; first | cases this | simp at this, fun q => by rw [q] at hY; have := fvbb.symm.trans hY; first | cases this | simp at this⟩ hY
                              replace hms := khv29 _ _ ⟨fun q => by rw [q] at hms; have := fabb.symm.trans hms; first | cases this | simp at this, fun q => by rw [q] at hms; have := fkbb.symm.trans hms; first | cases this | simp at this, fun q => by rw [q] at hms; have := fvbb.symm.trans hms; first | cases this | simp at this⟩ hms
                              replace hmb := khv29 _ _ ⟨fun q => by rw [q] at hmb; have := fabb.symm.trans hmb; first | cases this | simp at this, fun q => by rw [q] at hmb; have := fkbb.symm.trans hmb; first | cases this | simp at this, fun q => by rw [q] at hmb; have := fvbb.symm.trans hmb; first | cases this | simp at this⟩ hmb
                              replace faw := khv29 _ _ awbb.1 faw
                              replace fkw := khv29 _ _ awbb.2.1 fkw
                              replace fvw := khv29 _ _ awbb.2.2 fvw
                              replace fr := fun b o hb n1 n2 n3 => khv29 b o n3 (fr b o hb n1 n2 n3)
                              clear fabb fkbb fvbb
                              have fabb := r9.2.2.2.1
                              have fkbb := r9.2.2.2.2.1
                              have fvbb := r9.2.2.2.2.2
                              unfold qRb at fabb
                              unfold qJr at fkbb fvbb
                              clear r9 ehv29
                              replace lw : qLs ((S (24 + bb)).1) (qSd Fbb j8 (nbb - 1)) (qSd Gbb j8 (nbb - 1)) (nbb - 1) = ((S (24 + bb)).2.1).eraseIdx j8 := by rw [qLs_rem (by omega), lw]
                              refine lv_aload hx hb dX8_build_315 (lv_at hl 1 rfl) ?_
                              refine q_get C hP fabb rfl inX7 3 (by decide) g1143 rfl dX8_build_317 ?_
                              have lf : qLs (S (24 + bb)).1 (qSd Fbb j8 (nbb - 1)) (qSd Gbb j8 (nbb - 1)) (nbb - 1) = ((S (24 + bb)).2.1.filter (fun p => decide (p.1 ≠ p2))) := by rw [lw, hLbb]; exact qerase_f (hLbb ▸ (hI (24 + bb) (by omega)).2.1 (hkd bb (by omega) c39 c69)) hj8 e8
                              have el : ((S (24 + bb)).2.1.filter (fun p => decide (p.1 ≠ p2))).length = (nbb - 1) := by rw [← lf, qLs_len]
                              have ex : xs_build gr S (nI bb) (nI 2) p2 p3 = (0, qU S (24 + bb) ((S (24 + bb)).1, ((S (24 + bb)).2.1.filter (fun p => decide (p.1 ≠ p2))), (S (24 + bb)).2.2), nI ((nbb - 1))) := by unfold xs_build; rw [if_neg (by simp [ebb, ebk]), ecb, if_neg c39, ecw, if_neg c69]; unfold xr_buildH; rw [if_neg (by decide), if_neg (by decide), el]
                              obtain ⟨m9, f9⟩ := hM.fin hY0 (i := (24 + bb)) (by omega) (s := ((S (24 + bb)).1, ((S (24 + bb)).2.1.filter (fun p => decide (p.1 ≠ p2))), (S (24 + bb)).2.2)) ⟨(nbb - 1), _, _, _, ⟨hRbb.1, hRbb.2.1, hRbb.2.2.1, fabb, fkbb, fvbb⟩, by omega, lf.symm, by first | exact Or.inl rfl | exact xRo.mv (by omega) hKj | exact xRo.bl (by omega) hKbb⟩ ⟨hRw.1, hRw.2.1, hRw.2.2.1, faw, fkw, fvw⟩ fr
                              exact q_iret C hP hS ⟨by first | (rw [ex]; done) | (rw [ex]; rfl), by rw [ex]; exact hY, by rw [ex]; exact m9, f9⟩ (by omega) dX8_build_320
                          · replace c247 : 2 = 0 := (nI_eq (a := 2) (b := 0) (by omega) (by omega)).mp c247
                            exfalso; omega
                        · have hx8 := xHas_f (kd := (S (24 + bb)).1) (g := Gbb) m8
                          rw [← hLbb] at hx8
                          refine lv_istore (lv' := [(8, .int (-1)), (7, .ref (ra (24 + bb))), (0, .ref y), (1, .int (nI bb)), (2, .int (nI 2)), (3, .long p2), (5, .long p3)]) hx hb dX8_build_244 hl (by decide) rfl (fun ls hl => ?_)
                          refine lv_iload_n hx hb dX8_build_246 rfl (lv_at hl 4 rfl) ?_
                          refine lv_if_ne (tgt := 303) hx hb dX8_build_247 (by decide) (fun c247 => ?_) (fun c247 => ?_)
                          · replace c247 : ¬ 2 = 0 := fun zq => c247 ((nI_eq (a := 2) (b := 0) (by omega) (by omega)).mpr zq)
                            refine lv_iload hx hb dX8_build_303 (lv_at hl 0 rfl) ?_
                            refine lv_if_lt (tgt := 315) hx hb dX8_build_305 (by decide) (fun _ => ?_) (fun c => absurd (by decide) c)
                            refine lv_aload hx hb dX8_build_315 (lv_at hl 1 rfl) ?_
                            refine q_get C hP fabb rfl inX7 3 (by decide) g1143 rfl dX8_build_317 ?_
                            have lf : qLs (S (24 + bb)).1 Fbb Gbb nbb = ((S (24 + bb)).2.1.filter (fun p => decide (p.1 ≠ p2))) := by rw [hLbb]; exact (qnot_f m8).symm
                            have el : ((S (24 + bb)).2.1.filter (fun p => decide (p.1 ≠ p2))).length = nbb := by rw [← lf, qLs_len]
                            have ex : xs_build gr S (nI bb) (nI 2) p2 p3 = (0, qU S (24 + bb) ((S (24 + bb)).1, ((S (24 + bb)).2.1.filter (fun p => decide (p.1 ≠ p2))), (S (24 + bb)).2.2), nI (nbb)) := by unfold xs_build; rw [if_neg (by simp [ebb, ebk]), ecb, if_neg c39, ecw, if_neg c69]; unfold xr_buildH; rw [if_neg (by decide), if_neg (by decide), el]
                            replace fr := fun b o hb n1 n2 (n3 : qOf (ra (24 + bb)) (rk (24 + bb)) (rv (24 + bb)) b) => fr b o hb n1 n2
                            obtain ⟨m9, f9⟩ := hM.fin hY0 (i := (24 + bb)) (by omega) (s := ((S (24 + bb)).1, ((S (24 + bb)).2.1.filter (fun p => decide (p.1 ≠ p2))), (S (24 + bb)).2.2)) ⟨nbb, _, _, _, ⟨hRbb.1, hRbb.2.1, hRbb.2.2.1, fabb, fkbb, fvbb⟩, by omega, lf.symm, by first | exact Or.inl rfl | exact xRo.mv (by omega) hKj | exact xRo.bl (by omega) hKbb⟩ ⟨hRw.1, hRw.2.1, hRw.2.2.1, faw, fkw, fvw⟩ fr
                            exact q_iret C hP hS ⟨by first | (rw [ex]; done) | (rw [ex]; rfl), by rw [ex]; exact hY, by rw [ex]; exact m9, f9⟩ (by omega) dX8_build_320
                          · replace c247 : 2 = 0 := (nI_eq (a := 2) (b := 0) (by omega) (by omega)).mp c247
                            exfalso; omega
                      · replace c233 : 1 = 0 := (nI_eq (a := 1) (b := 0) (by omega) (by omega)).mp c233
                        exfalso; omega
                  · refine lv_iload_n hx hb dX8_build_72 rfl (lv_at hl 3 rfl) ?_
                    refine lv_iconst (v := nI 1) hx hb dX8_build_73 (by decide) ?_
                    refine lv_icmp_ne (tgt := 107) hx hb dX8_build_74 (by decide) (fun c74 => ?_) (fun c74 => ?_)
                    · replace c74 : ¬ 2 = 1 := fun zq => c74 ((nI_eq (a := 2) (b := 1) (by omega) (by omega)).mpr zq)
                      refine lv_iload_n hx hb dX8_build_107 rfl (lv_at hl 3 rfl) ?_
                      refine lv_iconst (v := nI 2) hx hb dX8_build_108 (by decide) ?_
                      refine lv_icmp_ne (tgt := 133) hx hb dX8_build_109 (by decide) (fun c109 => ?_) (fun c109 => ?_)
                      · replace c109 : ¬ 2 = 2 := fun zq => c109 ((nI_eq (a := 2) (b := 2) (by omega) (by omega)).mpr zq)
                        exfalso; omega
                      · replace c109 : 2 = 2 := (nI_eq (a := 2) (b := 2) (by omega) (by omega)).mp c109
                        refine lv_aload_n hx hb dX8_build_112 rfl (lv_at hl 1 rfl) ?_
                        refine lv_aload hx hb dX8_build_113 (lv_at hl 0 rfl) ?_
                        refine q_get C hP fabb rfl inX7 3 (by decide) g1143 rfl dX8_build_115 ?_
                        refine lv_if_le (tgt := 125) hx hb dX8_build_118 (by decide) (fun c118 => ?_) (fun c118 => ?_)
                        · replace c118 : nbb ≤ 0 := (nI_leI (a := nbb) (b := 0) (by omega) (by omega)).mp c118
                          refine lv_iconst (v := nI 0) hx hb dX8_build_125 (by decide) ?_
                          refine lv_iconst (v := nI 4) hx hb dX8_build_126 (by decide) ?_
                          refine q_callV (rest := []) C (c_X8_good0 l D cy N0 hv27 y ms mb (ra 28) od pt fi re rc rs so ot cn la ro gr 0 ca mv ct fau cs ce rn (nI 4) hY) kX8_good g1249 g1251 rfl gp41 g4 hP hS hY (by first | decide | omega) hl.1 rfl (by decide) (by first | decide | omega) dX8_build_127 (fun q ce E h' H1 locs1 hE => hE.elim) (fun v hh32 H locs hq hP hS => ?_)
                          obtain ⟨rfl, rfl⟩ := hq
                          replace hP : qP D N0 (qs hv27 y (.inr (8, [.ref ms, .ref mb, .ref (ra 28), .int gr, .int (nI 4), .int ca, .int mv, .ref od, .ref pt, .int ct, .int fau, .ref fi, .ref re, .int cs, .ref rc, .ref rs, .ref so, .ref ot, .ref cn, .ref la, .int ce, .ref ro, .int rn]))) H := hP
                          obtain ⟨hv30, ehv30⟩ : ∃ z : qH, z = qs hv27 y (.inr (8, [.ref ms, .ref mb, .ref (ra 28), .int gr, .int (nI 4), .int ca, .int mv, .ref od, .ref pt, .int ct, .int fau, .ref fi, .ref re, .int cs, .ref rc, .ref rs, .ref so, .ref ot, .ref cn, .ref la, .int ce, .ref ro, .int rn])) := ⟨_, rfl⟩
                          rw [← ehv30] at hP
                          have khv30 : ∀ b o, b ≠ y → hv27 b = some o → hv30 b = some o := by rw [ehv30]; exact fun b o nb hb => (qs_ne nb).trans hb
                          replace hms := khv30 _ _ (fun q => by subst q; have := hms.symm.trans hY; first | cases this | simp at this) hms
                          replace hmb := khv30 _ _ (fun q => by subst q; have := hmb.symm.trans hY; first | cases this | simp at this) hmb
                          replace faw := khv30 _ _ (fun q => by have z9 := faw; rw [q] at z9; have := z9.symm.trans hY; first | cases this | simp at this) faw
                          replace fkw := khv30 _ _ (fun q => by have z9 := fkw; rw [q] at z9; have := z9.symm.trans hY; first | cases this | simp at this) fkw
                          replace fvw := khv30 _ _ (fun q => by have z9 := fvw; rw [q] at z9; have := z9.symm.trans hY; first | cases this | simp at this) fvw
                          replace fabb := khv30 _ _ (fun q => by have z9 := fabb; rw [q] at z9; have := z9.symm.trans hY; first | cases this | simp at this) fabb
                          replace fkbb := khv30 _ _ (fun q => by have z9 := fkbb; rw [q] at z9; have := z9.symm.trans hY; first | cases this | simp at this) fkbb
                          replace fvbb := khv30 _ _ (fun q => by have z9 := fvbb; rw [q] at z9; have := z9.symm.trans hY; first | cases this | simp at this) fvbb
                          replace hY : hv30 y = some (.inr (8, [.ref ms, .ref mb, .ref (ra 28), .int gr, .int (nI 4), .int ca, .int mv, .ref od, .ref pt, .int ct, .int fau, .ref fi, .ref re, .int cs, .ref rc, .ref rs, .ref so, .ref ot, .ref cn, .ref la, .int ce, .ref ro, .int rn])) := by rw [ehv30]; exact qs_self
                          clear ehv30
                          replace fr := fun b o hb n1 n2 => khv30 b o n1 (fr b o hb n1 n2)
                          refine lv_if_eq (tgt := 161) hx hb dX8_build_130 (by decide) (fun c130 => ?_) (fun c130 => ?_)
                          · replace c130 : 0 = 0 := (nI_eq (a := 0) (b := 0) (by omega) (by omega)).mp c130
                            refine lv_iconst (v := nI 0) hx hb dX8_build_161 (by decide) ?_
                            have ex : xs_build gr S (nI bb) (nI 2) p2 p3 = (4, S, 0) := by unfold xs_build; rw [if_neg (by simp [ebb, ebk]), ecb, if_neg c39, ecw, if_pos c69]; unfold xr_buildS; rw [if_neg (by decide), if_pos rfl, show (S (24 + bb)).2.1.length = nbb from (by rw [hLbb, qLs_len]), if_neg (fun z => by omega)]
                            obtain ⟨m9, f9⟩ := hM.fin0 hY0 (h' := hv30) ⟨hRw.1, hRw.2.1, hRw.2.2.1, faw, fkw, fvw⟩ fr
                            exact q_iret C hP hS ⟨by first | (rw [ex]; done) | (rw [ex]; rfl), by rw [ex]; exact hY, by first | exact m9 | (rw [ex]; exact m9), f9⟩ (by omega) dX8_build_162
                          · replace c130 : ¬ 0 = 0 := fun zq => c130 ((nI_eq (a := 0) (b := 0) (by omega) (by omega)).mpr zq)
                            exfalso; omega
                        · replace c118 : ¬ nbb ≤ 0 := fun zq => c118 ((nI_leI (a := nbb) (b := 0) (by omega) (by omega)).mpr zq)
                          refine lv_iconst (v := nI 1) hx hb dX8_build_121 (by decide) ?_
                          refine lv_goto (tgt := 126) hx hb dX8_build_122 (by decide) ?_
                          refine lv_iconst (v := nI 4) hx hb dX8_build_126 (by decide) ?_
                          refine q_callV (rest := []) C (c_X8_good1 l D cy N0 hv27 y ms mb (ra 28) od pt fi re rc rs so ot cn la ro gr 0 ca mv ct fau cs ce rn (nI 4) hY) kX8_good g1249 g1251 rfl gp41 g4 hP hS hY (by first | decide | omega) hl.1 rfl (by decide) (by first | decide | omega) dX8_build_127 (fun q ce E h' H1 locs1 hE => hE.elim) (fun v hh33 H locs hq hP hS => ?_)
                          obtain ⟨rfl, rfl⟩ := hq
                          replace hP : qP D N0 (qs hv27 y (.inr (8, [.ref ms, .ref mb, .ref (ra 28), .int gr, .int 0, .int ca, .int mv, .ref od, .ref pt, .int ct, .int fau, .ref fi, .ref re, .int cs, .ref rc, .ref rs, .ref so, .ref ot, .ref cn, .ref la, .int ce, .ref ro, .int rn]))) H := hP
                          obtain ⟨hv31, ehv31⟩ : ∃ z : qH, z = qs hv27 y (.inr (8, [.ref ms, .ref mb, .ref (ra 28), .int gr, .int 0, .int ca, .int mv, .ref od, .ref pt, .int ct, .int fau, .ref fi, .ref re, .int cs, .ref rc, .ref rs, .ref so, .ref ot, .ref cn, .ref la, .int ce, .ref ro, .int rn])) := ⟨_, rfl⟩
                          rw [← ehv31] at hP
                          have khv31 : ∀ b o, b ≠ y → hv27 b = some o → hv31 b = some o := by rw [ehv31]; exact fun b o nb hb => (qs_ne nb).trans hb
                          replace hms := khv31 _ _ (fun q => by subst q; have := hms.symm.trans hY; first | cases this | simp at this) hms
                          replace hmb := khv31 _ _ (fun q => by subst q; have := hmb.symm.trans hY; first | cases this | simp at this) hmb
                          replace faw := khv31 _ _ (fun q => by have z9 := faw; rw [q] at z9; have := z9.symm.trans hY; first | cases this | simp at this) faw
                          replace fkw := khv31 _ _ (fun q => by have z9 := fkw; rw [q] at z9; have := z9.symm.trans hY; first | cases this | simp at this) fkw
                          replace fvw := khv31 _ _ (fun q => by have z9 := fvw; rw [q] at z9; have := z9.symm.trans hY; first | cases this | simp at this) fvw
                          replace fabb := khv31 _ _ (fun q => by have z9 := fabb; rw [q] at z9; have := z9.symm.trans hY; first | cases this | simp at this) fabb
                          replace fkbb := khv31 _ _ (fun q => by have z9 := fkbb; rw [q] at z9; have := z9.symm.trans hY; first | cases this | simp at this) fkbb
                          replace fvbb := khv31 _ _ (fun q => by have z9 := fvbb; rw [q] at z9; have := z9.symm.trans hY; first | cases this | simp at this) fvbb
                          replace hY : hv31 y = some (.inr (8, [.ref ms, .ref mb, .ref (ra 28), .int gr, .int 0, .int ca, .int mv, .ref od, .ref pt, .int ct, .int fau, .ref fi, .ref re, .int cs, .ref rc, .ref rs, .ref so, .ref ot, .ref cn, .ref la, .int ce, .ref ro, .int rn])) := by rw [ehv31]; exact qs_self
                          clear ehv31
                          replace fr := fun b o hb n1 n2 => khv31 b o n1 (fr b o hb n1 n2)
                          refine lv_if_eq (tgt := 161) hx hb dX8_build_130 (by decide) (fun c130 => ?_) (fun c130 => ?_)
                          · replace c130 : 1 = 0 := (nI_eq (a := 1) (b := 0) (by omega) (by omega)).mp c130
                            exfalso; omega
                          · replace c130 : ¬ 1 = 0 := fun zq => c130 ((nI_eq (a := 1) (b := 0) (by omega) (by omega)).mpr zq)
                            refine lv_iload_n hx hb dX8_build_133 rfl (lv_at hl 3 rfl) ?_
                            refine lv_if_ne (tgt := 163) hx hb dX8_build_134 (by decide) (fun c134 => ?_) (fun c134 => ?_)
                            · replace c134 : ¬ 2 = 0 := fun zq => c134 ((nI_eq (a := 2) (b := 0) (by omega) (by omega)).mpr zq)
                              have lw := hLbb.symm
                              replace fr := fun b o hb n1 n2 (n3 : qOf (ra (24 + bb)) (rk (24 + bb)) (rv (24 + bb)) b) => fr b o hb n1 n2
                              have elen : (S (24 + bb)).2.1.length = nbb := by rw [hLbb, qLs_len]
                              refine lv_iload_n hx hb dX8_build_163 rfl (lv_at hl 3 rfl) ?_
                              refine lv_if_ne (tgt := 183) hx hb dX8_build_164 (by decide) (fun c164 => ?_) (fun c164 => ?_)
                              · replace c164 : ¬ 2 = 0 := fun zq => c164 ((nI_eq (a := 2) (b := 0) (by omega) (by omega)).mpr zq)
                                refine lv_iload_n hx hb dX8_build_183 rfl (lv_at hl 3 rfl) ?_
                                refine lv_iconst (v := nI 1) hx hb dX8_build_184 (by decide) ?_
                                refine lv_icmp_ne (tgt := 201) hx hb dX8_build_185 (by decide) (fun c185 => ?_) (fun c185 => ?_)
                                · replace c185 : ¬ 2 = 1 := fun zq => c185 ((nI_eq (a := 2) (b := 1) (by omega) (by omega)).mpr zq)
                                  refine lv_aload hx hb dX8_build_201 (lv_at hl 0 rfl) ?_
                                  refine lv_dup hx hb dX8_build_203 rfl ?_
                                  refine q_get C hP fabb rfl inX7 3 (by decide) g1143 rfl dX8_build_204 ?_
                                  refine lv_iconst (v := nI 1) hx hb dX8_build_207 (by decide) ?_
                                  refine q_isubN hx hb dX8_build_208 (by omega) ?_
                                  refine q_put C hP hS fabb rfl inX7 tyX7 tyX7_ok nmX7 3 (by decide) g1143 rfl rfl rfl (Nat.le_of_ble_eq_true rfl) dX8_build_209 (fun H locs hP hS => ?_)
                                  replace hP : qP D N0 (qs hv31 (ra (24 + bb)) (.inr (7, [.ref (rk (24 + bb)), .ref (rv (24 + bb)), .int (S (24 + bb)).1, .int (nI (nbb - 1)), .int (nI (S (24 + bb)).2.2.1), .int (nI (S (24 + bb)).2.2.2), .int rwbb]))) H := hP
                                  obtain ⟨hv32, ehv32⟩ : ∃ z : qH, z = qs hv31 (ra (24 + bb)) (.inr (7, [.ref (rk (24 + bb)), .ref (rv (24 + bb)), .int (S (24 + bb)).1, .int (nI (nbb - 1)), .int (nI (S (24 + bb)).2.2.1), .int (nI (S (24 + bb)).2.2.2), .int rwbb])) := ⟨_, rfl⟩
                                  rw [← ehv32] at hP
                                  have khv32 : ∀ b o, b ≠ (ra (24 + bb)) → hv31 b = some o → hv32 b = some o := by rw [ehv32]; exact fun b o nb hb => (qs_ne nb).trans hb
                                  replace hY := khv32 _ _ (fun q => by have z9 := hY; rw [q] at z9; have := z9.symm.trans fabb; first | cases this | simp at this) hY
                                  replace hms := khv32 _ _ (fun q => by have z9 := hms; rw [q] at z9; have := z9.symm.trans fabb; first | cases this | simp at this) hms
                                  replace hmb := khv32 _ _ (fun q => by have z9 := hmb; rw [q] at z9; have := z9.symm.trans fabb; first | cases this | simp at this) hmb
                                  replace faw := khv32 _ _ (Ne.symm apbb.1.1) faw
                                  replace fkw := khv32 _ _ (Ne.symm apbb.1.2.1) fkw
                                  replace fvw := khv32 _ _ (Ne.symm apbb.1.2.2) fvw
                                  replace fkbb := khv32 _ _ (fun q => by have z9 := fkbb; rw [q] at z9; have := z9.symm.trans fabb; first | cases this | simp at this) fkbb
                                  replace fvbb := khv32 _ _ (fun q => by have z9 := fvbb; rw [q] at z9; have := z9.symm.trans fabb; first | cases this | simp at this) fvbb
                                  replace fabb : hv32 (ra (24 + bb)) = some (.inr (7, [.ref (rk (24 + bb)), .ref (rv (24 + bb)), .int (S (24 + bb)).1, .int (nI (nbb - 1)), .int (nI (S (24 + bb)).2.2.1), .int (nI (S (24 + bb)).2.2.2), .int rwbb])) := by rw [ehv32]; exact qs_self
                                  clear ehv32
                                  replace fr := fun b o hb n1 n2 n3 => khv32 b o n3.1 (fr b o hb n1 n2 n3)
                                  refine lv_aload hx hb dX8_build_212 (lv_at hl 0 rfl) ?_
                                  refine q_get C hP fabb rfl inX7 3 (by decide) g1143 rfl dX8_build_214 ?_
                                  have ex : xs_build gr S (nI bb) (nI 2) p2 p3 = (0, qU S (24 + bb) ((S (24 + bb)).1, ((S (24 + bb)).2.1.take (nbb - 1)), (S (24 + bb)).2.2), nI (nbb - 1)) := by unfold xs_build; rw [if_neg (by simp [ebb, ebk]), ecb, if_neg c39, ecw, if_pos c69]; unfold xr_buildS; rw [if_neg (by decide), if_pos rfl, show (S (24 + bb)).2.1.length = nbb from (by rw [hLbb, qLs_len]), if_pos (by omega)]
                                  obtain ⟨m9, f9⟩ := hM.fin hY0 (i := (24 + bb)) (by omega) (s := ((S (24 + bb)).1, ((S (24 + bb)).2.1.take (nbb - 1)), (S (24 + bb)).2.2)) ⟨(nbb - 1), _, _, _, ⟨hRbb.1, hRbb.2.1, hRbb.2.2.1, fabb, fkbb, fvbb⟩, by omega, by rw [hLbb]; exact (qLs_take (by omega)).symm, by first | exact Or.inl rfl | exact xRo.mv (by omega) hKj | exact xRo.bl (by omega) hKbb⟩ ⟨hRw.1, hRw.2.1, hRw.2.2.1, faw, fkw, fvw⟩ fr
                                  exact q_iret C hP hS ⟨by first | (rw [ex]; done) | (rw [ex]; rfl), by rw [ex]; exact hY, by rw [ex]; exact m9, f9⟩ (by omega) dX8_build_217
                                · replace c185 : 2 = 1 := (nI_eq (a := 2) (b := 1) (by omega) (by omega)).mp c185
                                  exfalso; omega
                              · replace c164 : 2 = 0 := (nI_eq (a := 2) (b := 0) (by omega) (by omega)).mp c164
                                exfalso; omega
                            · replace c134 : 2 = 0 := (nI_eq (a := 2) (b := 0) (by omega) (by omega)).mp c134
                              exfalso; omega
                    · replace c74 : 2 = 1 := (nI_eq (a := 2) (b := 1) (by omega) (by omega)).mp c74
                      exfalso; omega
                · replace c51 : 1 = 0 := (nI_eq (a := 1) (b := 0) (by omega) (by omega)).mp c51
                  exfalso; omega
  · have ebb : bB3 p0 = false := bB3_f sl9
    refine lv_if_eq (tgt := 21) hx hb dX8_build_5 (by decide) (fun c5 => ?_) (fun c5 => ?_)
    · replace c5 : 0 = 0 := (nI_eq (a := 0) (b := 0) (by omega) (by omega)).mp c5
      refine lv_iconst (v := nI 0) hx hb dX8_build_21 (by decide) ?_
      refine lv_iconst (v := nI 1) hx hb dX8_build_22 (by decide) ?_
      refine q_callV (rest := []) C (c_X8_good0 l D cy N0 h y ms mb (ra 28) od pt fi re rc rs so ot cn la ro gr cd ca mv ct fau cs ce rn (nI 1) hY) kX8_good g1249 g1251 rfl gp41 g4 hP hS hY (by first | decide | omega) hl.1 rfl (by decide) (by first | decide | omega) dX8_build_23 (fun q ce E h' H1 locs1 hE => hE.elim) (fun v hh34 H locs hq hP hS => ?_)
      obtain ⟨rfl, rfl⟩ := hq
      replace hP : qP D N0 (qs h y (.inr (8, [.ref ms, .ref mb, .ref (ra 28), .int gr, .int (nI 1), .int ca, .int mv, .ref od, .ref pt, .int ct, .int fau, .ref fi, .ref re, .int cs, .ref rc, .ref rs, .ref so, .ref ot, .ref cn, .ref la, .int ce, .ref ro, .int rn]))) H := hP
      obtain ⟨hv33, ehv33⟩ : ∃ z : qH, z = qs h y (.inr (8, [.ref ms, .ref mb, .ref (ra 28), .int gr, .int (nI 1), .int ca, .int mv, .ref od, .ref pt, .int ct, .int fau, .ref fi, .ref re, .int cs, .ref rc, .ref rs, .ref so, .ref ot, .ref cn, .ref la, .int ce, .ref ro, .int rn])) := ⟨_, rfl⟩
      rw [← ehv33] at hP
      have khv33 : ∀ b o, b ≠ y → h b = some o → hv33 b = some o := by rw [ehv33]; exact fun b o nb hb => (qs_ne nb).trans hb
      replace hms := khv33 _ _ (fun q => by subst q; have := hms.symm.trans hY; first | cases this | simp at this) hms
      replace hmb := khv33 _ _ (fun q => by subst q; have := hmb.symm.trans hY; first | cases this | simp at this) hmb
      replace faw := khv33 _ _ (fun q => by have z9 := faw; rw [q] at z9; have := z9.symm.trans hY; first | cases this | simp at this) faw
      replace fkw := khv33 _ _ (fun q => by have z9 := fkw; rw [q] at z9; have := z9.symm.trans hY; first | cases this | simp at this) fkw
      replace fvw := khv33 _ _ (fun q => by have z9 := fvw; rw [q] at z9; have := z9.symm.trans hY; first | cases this | simp at this) fvw
      replace hY : hv33 y = some (.inr (8, [.ref ms, .ref mb, .ref (ra 28), .int gr, .int (nI 1), .int ca, .int mv, .ref od, .ref pt, .int ct, .int fau, .ref fi, .ref re, .int cs, .ref rc, .ref rs, .ref so, .ref ot, .ref cn, .ref la, .int ce, .ref ro, .int rn])) := by rw [ehv33]; exact qs_self
      clear ehv33
      replace fr := fun b o hb n1 n2 => khv33 b o n1 (fr b o hb n1 n2)
      refine lv_if_eq (tgt := 54) hx hb dX8_build_26 (by decide) (fun c26 => ?_) (fun c26 => ?_)
      · replace c26 : 0 = 0 := (nI_eq (a := 0) (b := 0) (by omega) (by omega)).mp c26
        refine lv_iconst (v := nI 0) hx hb dX8_build_54 (by decide) ?_
        have ex : xs_build gr S p0 p1 p2 p3 = (1, S, 0) := by unfold xs_build; rw [if_pos (by simp [ebb])]
        obtain ⟨m9, f9⟩ := hM.fin0 hY0 (h' := hv33) ⟨hRw.1, hRw.2.1, hRw.2.2.1, faw, fkw, fvw⟩ fr
        exact q_iret C hP hS ⟨by first | (rw [ex]; done) | (rw [ex]; rfl), by rw [ex]; exact hY, by first | exact m9 | (rw [ex]; exact m9), f9⟩ (by omega) dX8_build_55
      · replace c26 : ¬ 0 = 0 := fun zq => c26 ((nI_eq (a := 0) (b := 0) (by omega) (by omega)).mpr zq)
        exfalso; omega
    · replace c5 : ¬ 0 = 0 := fun zq => c5 ((nI_eq (a := 0) (b := 0) (by omega) (by omega)).mpr zq)
      exfalso; omega
