theorem bHo_64 {kd : Int32} (h : kd ∈ [(-1 : Int32), 0, 1, 2, 3, 4, 5, 6]) (e : bHo kd 64 = true) : kd = 6 := by
  simp only [List.mem_cons, List.not_mem_nil, or_false] at h
  rcases h with rfl | rfl | rfl | rfl | rfl | rfl | rfl | rfl <;> revert e <;> decide
def xs_take (S : Nat → qSlot) (W : qWo) (p0 p1 p2 : Int32) : Int32 × (Nat → qSlot) × qWo := if bSl p0 = false ∨ bSl p1 = false ∨ p2 < 0 then (1, S, W) else if bHo (S p1.toNatClampNeg).1 64 = false then (2, S, W) else
  if ¬ (S p1.toNatClampNeg).2.2.2 < 100 then (3, S, W) else (0, qU S p0.toNatClampNeg ((S p1.toNatClampNeg).1, (S p1.toNatClampNeg).2.1, (xTak W.2.1 W.2.2 (S p1.toNatClampNeg).2.2.1 p2.toNatClampNeg).1, (S p1.toNatClampNeg).2.2.2 + 1), W.1, (xTak W.2.1 W.2.2 (S p1.toNatClampNeg).2.2.1 p2.toNatClampNeg).2)
theorem dX8_take_46 : decode cX8_take 46 = .ok (.aload_n 0, 1) := by decide +kernel
theorem dX8_take_47 : decode cX8_take 47 = .ok (.aload_n 0, 1) := by decide +kernel
theorem dX8_take_48 : decode cX8_take 48 = .ok (.getfield 9, 3) := by decide +kernel
theorem dX8_take_51 : decode cX8_take 51 = .ok (.iload_n 2, 1) := by decide +kernel
theorem dX8_take_52 : decode cX8_take 52 = .ok (.aaload, 1) := by decide +kernel
theorem dX8_take_53 : decode cX8_take 53 = .ok (.getfield 84, 3) := by decide +kernel
theorem dX8_take_56 : decode cX8_take 56 = .ok (.bipush 100, 2) := by decide +kernel
theorem dX8_take_58 : decode cX8_take 58 = .ok (.if_icmp .ge 7, 3) := by decide +kernel
theorem dX8_take_61 : decode cX8_take 61 = .ok (.iconst 1, 1) := by decide +kernel
theorem dX8_take_62 : decode cX8_take 62 = .ok (.goto 4, 3) := by decide +kernel
theorem dX8_take_65 : decode cX8_take 65 = .ok (.iconst 0, 1) := by decide +kernel
theorem dX8_take_66 : decode cX8_take 66 = .ok (.iconst 3, 1) := by decide +kernel
theorem dX8_take_67 : decode cX8_take 67 = .ok (.invokevirtual 100, 3) := by decide +kernel
theorem dX8_take_70 : decode cX8_take 70 = .ok (.ifCond .ne 4, 3) := by decide +kernel
theorem dX8_take_74 : decode cX8_take 74 = .ok (.aload_n 0, 1) := by decide +kernel
theorem dX8_take_75 : decode cX8_take 75 = .ok (.getfield 9, 3) := by decide +kernel
theorem dX8_take_78 : decode cX8_take 78 = .ok (.iload_n 2, 1) := by decide +kernel
theorem dX8_take_79 : decode cX8_take 79 = .ok (.aaload, 1) := by decide +kernel
theorem dX8_take_80 : decode cX8_take 80 = .ok (.aload_n 0, 1) := by decide +kernel
theorem dX8_take_81 : decode cX8_take 81 = .ok (.getfield 19, 3) := by decide +kernel
theorem dX8_take_84 : decode cX8_take 84 = .ok (.invokestatic 104, 3) := by decide +kernel
theorem dX8_take_87 : decode cX8_take 87 = .ok (.aload_n 0, 1) := by decide +kernel
theorem dX8_take_88 : decode cX8_take 88 = .ok (.getfield 19, 3) := by decide +kernel
theorem dX8_take_91 : decode cX8_take 91 = .ok (.aload_n 0, 1) := by decide +kernel
theorem dX8_take_92 : decode cX8_take 92 = .ok (.aload_n 0, 1) := by decide +kernel
theorem dX8_take_93 : decode cX8_take 93 = .ok (.getfield 19, 3) := by decide +kernel
theorem dX8_take_96 : decode cX8_take 96 = .ok (.getfield 81, 3) := by decide +kernel
theorem dX8_take_99 : decode cX8_take 99 = .ok (.iload_n 3, 1) := by decide +kernel
theorem dX8_take_100 : decode cX8_take 100 = .ok (.invokevirtual 212, 3) := by decide +kernel
theorem dX8_take_103 : decode cX8_take 103 = .ok (.putfield 81, 3) := by decide +kernel
theorem dX8_take_106 : decode cX8_take 106 = .ok (.aload_n 0, 1) := by decide +kernel
theorem dX8_take_107 : decode cX8_take 107 = .ok (.getfield 19, 3) := by decide +kernel
theorem dX8_take_110 : decode cX8_take 110 = .ok (.dup, 1) := by decide +kernel
theorem dX8_take_111 : decode cX8_take 111 = .ok (.getfield 84, 3) := by decide +kernel
theorem dX8_take_114 : decode cX8_take 114 = .ok (.iconst 1, 1) := by decide +kernel
theorem dX8_take_115 : decode cX8_take 115 = .ok (.iadd, 1) := by decide +kernel
theorem dX8_take_116 : decode cX8_take 116 = .ok (.putfield 84, 3) := by decide +kernel
theorem dX8_take_119 : decode cX8_take 119 = .ok (.aload_n 0, 1) := by decide +kernel
theorem dX8_take_120 : decode cX8_take 120 = .ok (.iload_n 1, 1) := by decide +kernel
theorem dX8_take_121 : decode cX8_take 121 = .ok (.iconst 0, 1) := by decide +kernel
theorem dX8_take_122 : decode cX8_take 122 = .ok (.invokevirtual 135, 3) := by decide +kernel
theorem dX8_take_125 : decode cX8_take 125 = .ok (.pop, 1) := by decide +kernel
theorem dX8_take_126 : decode cX8_take 126 = .ok (.return_, 1) := by decide +kernel
set_option maxRecDepth 100000 in
set_option maxHeartbeats 4000000 in
theorem w_take (l : Launch) (D : va_G) (cy : Nat → ClassId) (N0 : Nat) (h : qH) (y ms mb mw od pt fi re rc rs so ot cn la ro : Nat) (gr cd ca mv ct fau cs ce rn : Int32) (ra rk rv : Nat → Nat) (S : Nat → qSlot) (pa : Nat → Nat) (A : Nat → Prop) (a : qWd) (k : qKd) (R : Nat → List Int64) (ad : Nat → Nat) (Rn : Nat) (Bd sl d dc : Nat) (dp : Nat → Nat) (F : qWo → Nat → Nat × qWo) (p0 p1 p2 : Int32) (X : Int32 × (Nat → qSlot) × qWo) (hY : h y = some (.inr (8, [.ref ms, .ref mb, .ref mw, .int gr, .int cd, .int ca, .int mv, .ref od, .ref pt, .int ct, .int fau, .ref fi, .ref re, .int cs, .ref rc, .ref rs, .ref so, .ref ot, .ref cn, .ref la, .int ce, .ref ro, .int rn]))) (hQ : qRF cy h y A ra rk rv pa (ms, mb, mw, od, pt, ro, gr, cd, ca, mv, ct, fau, rn) a k S Rn R ad) (hI : ∀ i, i < 28 → qOk (S i).1 (S i).2.1) (hV : qWv Bd sl Rn dp ((ms, mb, mw, od, pt, ro, gr, cd, ca, mv, ct, fau, rn), a, k)) (hB : Bd ≤ 4000) (hF : qFS l D cy N0 y Bd Rn R ad F d) (hG : qFg Bd Rn F d) (hdc : dc < d) (hSt : ∀ i, i < 24 → (S i).1 = 6 → (S i).2.2.1 < a.1 ∧ dp (S i).2.2.1 ≤ dc) (hDp : ∀ i, i < 24 → (S i).2.2.2 ≤ 100) (hX : xs_take S ((ms, mb, mw, od, pt, ro, gr, cd, ca, mv, ct, fau, rn), a, k) p0 p1 p2 = X) : qC l D cy N0 yX8_take cX8_take 4 none 5 200 (qP1 X.2.2.2.1 - qP1 a) (qP2 X.2.2.2.1 - qP2 a) [.ref y, .int p0, .int p1, .int p2] h (fun v h' => v = none ∧ ∃ A', qRF cy h' y A' ra rk rv pa (oCd X.2.2.1 X.1) X.2.2.2.1 X.2.2.2.2 X.2.1 Rn R ad ∧ qFR h h' y od ra rk rv pa A A') (fun E h' => False) := by
  refine q_ofW (by decide) (by exact Nat.le_of_ble_eq_true rfl) ?_
  intro p e s m below meth c ls C hP hl
  have hx := C.1
  have hb := C.2.1
  have hS : va_S (qA N0) s.heap s.heap [] := va_S.rf
  have hl : lv_has ls 4 [(0, .ref y), (1, .int p0), (2, .int p1), (3, .int p2)] := hl
  have hM : qMR cy h ms mb mw ra rk rv S := hQ.2.2.1
  have hY0 := hY
  obtain ⟨hms, hmb, hmw, hmd, hrs, kdw, smw, dpw, rww, nw, fw, gw, hRw⟩ := id hM
  subst hmw
  have fr : ∀ b o, h b = some o → b ≠ y → qOf (ra 28) (rk 28) (rv 28) b → h b = some o := fun b o hb _ _ => hb
  have faw := hRw.2.2.2.1
  have fkw := hRw.2.2.2.2.1
  have fvw := hRw.2.2.2.2.2
  unfold qRb at faw
  unfold qJr at fkw fvw
  refine lv_aload_n hx hb dX8_take_0 rfl (lv_at hl 0 rfl) ?_
  refine lv_iload_n hx hb dX8_take_1 rfl (lv_at hl 1 rfl) ?_
  refine q_callS (rest := [.ref y]) C (c_X8_isSlot l D cy N0 h p0) kX8_isSlot g1246 g1247 hP hS (by first | decide | omega) hl.1 rfl (by simp [q_catrf, q_cati, q_catl, q_cata, q_catn]) (by first | decide | omega) dX8_take_2 (fun q ce E h' H1 locs1 hE => hE.elim) (fun v hh1 H locs hq hP hS => ?_)
  obtain ⟨rfl, ⟨rfl, sl9⟩ | ⟨rfl, sl9⟩⟩ := hq
  · obtain ⟨i, hi, rfl⟩ := sl9.of
    have ebi : bSl (nI i) = true := bSl_t sl9
    have eci : (nI i).toNatClampNeg = i := nI_clamp (by omega)
    refine lv_if_eq (tgt := 23) hx hb dX8_take_5 (by decide) (fun c5 => ?_) (fun c5 => ?_)
    · replace c5 : 1 = 0 := (nI_eq (a := 1) (b := 0) (by omega) (by omega)).mp c5
      exfalso; omega
    · replace c5 : ¬ 1 = 0 := fun zq => c5 ((nI_eq (a := 1) (b := 0) (by omega) (by omega)).mpr zq)
      refine lv_iload_n hx hb dX8_take_8 rfl (lv_at hl 2 rfl) ?_
      refine q_callS (rest := [.ref y]) C (c_X8_isSlot l D cy N0 h p1) kX8_isSlot g1246 g1247 hP hS (by first | decide | omega) hl.1 rfl (by simp [q_catrf, q_cati, q_catl, q_cata, q_catn]) (by first | decide | omega) dX8_take_9 (fun q ce E h' H1 locs1 hE => hE.elim) (fun v hh2 H locs hq hP hS => ?_)
      obtain ⟨rfl, ⟨rfl, sl9⟩ | ⟨rfl, sl9⟩⟩ := hq
      · obtain ⟨j, hj, rfl⟩ := sl9.of
        have ebj : bSl (nI j) = true := bSl_t sl9
        have ecj : (nI j).toNatClampNeg = j := nI_clamp (by omega)
        refine lv_if_eq (tgt := 23) hx hb dX8_take_12 (by decide) (fun c12 => ?_) (fun c12 => ?_)
        · replace c12 : 1 = 0 := (nI_eq (a := 1) (b := 0) (by omega) (by omega)).mp c12
          exfalso; omega
        · replace c12 : ¬ 1 = 0 := fun zq => c12 ((nI_eq (a := 1) (b := 0) (by omega) (by omega)).mpr zq)
          refine lv_iload_n hx hb dX8_take_15 rfl (lv_at hl 3 rfl) ?_
          refine lv_if_lt (tgt := 23) hx hb dX8_take_16 (by decide) (fun c16 => ?_) (fun c16 => ?_)
          · refine lv_iconst (v := nI 0) hx hb dX8_take_23 (by decide) ?_
            refine lv_iconst (v := nI 1) hx hb dX8_take_24 (by decide) ?_
            refine q_callV (rest := []) C (c_X8_good0 l D cy N0 h y ms mb (ra 28) od pt fi re rc rs so ot cn la ro gr cd ca mv ct fau cs ce rn (nI 1) hY) kX8_good g1249 g1251 rfl gp41 g4 hP hS hY (by first | decide | omega) hl.1 rfl (by decide) (by first | decide | omega) dX8_take_25 (fun q ce E h' H1 locs1 hE => hE.elim) (fun v hh3 H locs hq hP hS => ?_)
            obtain ⟨rfl, rfl⟩ := hq
            replace hP : qP D N0 (qs h y (.inr (8, [.ref ms, .ref mb, .ref (ra 28), .int gr, .int (nI 1), .int ca, .int mv, .ref od, .ref pt, .int ct, .int fau, .ref fi, .ref re, .int cs, .ref rc, .ref rs, .ref so, .ref ot, .ref cn, .ref la, .int ce, .ref ro, .int rn]))) H := hP
            obtain ⟨hv1, ehv1⟩ : ∃ z : qH, z = qs h y (.inr (8, [.ref ms, .ref mb, .ref (ra 28), .int gr, .int (nI 1), .int ca, .int mv, .ref od, .ref pt, .int ct, .int fau, .ref fi, .ref re, .int cs, .ref rc, .ref rs, .ref so, .ref ot, .ref cn, .ref la, .int ce, .ref ro, .int rn])) := ⟨_, rfl⟩
            rw [← ehv1] at hP
            have khv1 : ∀ b o, b ≠ y → h b = some o → hv1 b = some o := by rw [ehv1]; exact fun b o nb hb => (qs_ne nb).trans hb
            replace hms := khv1 _ _ (fun q => by subst q; have := hms.symm.trans hY; first | cases this | simp at this) hms
            replace hmb := khv1 _ _ (fun q => by subst q; have := hmb.symm.trans hY; first | cases this | simp at this) hmb
            replace faw := khv1 _ _ (fun q => by have z9 := faw; rw [q] at z9; have := z9.symm.trans hY; first | cases this | simp at this) faw
            replace fkw := khv1 _ _ (fun q => by have z9 := fkw; rw [q] at z9; have := z9.symm.trans hY; first | cases this | simp at this) fkw
            replace fvw := khv1 _ _ (fun q => by have z9 := fvw; rw [q] at z9; have := z9.symm.trans hY; first | cases this | simp at this) fvw
            replace hY : hv1 y = some (.inr (8, [.ref ms, .ref mb, .ref (ra 28), .int gr, .int (nI 1), .int ca, .int mv, .ref od, .ref pt, .int ct, .int fau, .ref fi, .ref re, .int cs, .ref rc, .ref rs, .ref so, .ref ot, .ref cn, .ref la, .int ce, .ref ro, .int rn])) := by rw [ehv1]; exact qs_self
            clear ehv1
            replace fr := fun b o hb n1 n2 => khv1 b o n1 (fr b o hb n1 n2)
            refine lv_if_eq (tgt := 73) hx hb dX8_take_28 (by decide) (fun c28 => ?_) (fun c28 => ?_)
            · replace c28 : 0 = 0 := (nI_eq (a := 0) (b := 0) (by omega) (by omega)).mp c28
              have eX : X = (1, S, (ms, mb, ra 28, od, pt, ro, gr, cd, ca, mv, ct, fau, rn), a, k) := by rw [← hX]; unfold xs_take; rw [if_pos (Or.inr (Or.inr c16))]
              obtain ⟨m8, f8⟩ := hM.fin0 hY0 (h' := hv1) ⟨hRw.1, hRw.2.1, hRw.2.2.1, faw, fkw, fvw⟩ fr
              obtain ⟨q8, r8⟩ := hQ.rowM (o' := oCd (ms, mb, ra 28, od, pt, ro, gr, cd, ca, mv, ct, fau, rn) 1) hY0 hY m8 f8 ⟨rfl, rfl, rfl, rfl, rfl, rfl⟩
              exact q_vret C hP hS ⟨rfl, A, by rw [eX]; exact q8, r8⟩ (by omega) dX8_take_73
            · replace c28 : ¬ 0 = 0 := fun zq => c28 ((nI_eq (a := 0) (b := 0) (by omega) (by omega)).mpr zq)
              exfalso; omega
          · obtain ⟨q, hq9, rfl⟩ := nI_of c16
            have ecq : (nI q).toNatClampNeg = q := nI_clamp hq9
            have hd8 := hDp j (by omega)
            refine lv_iconst (v := nI 1) hx hb dX8_take_19 (by decide) ?_
            refine lv_goto (tgt := 24) hx hb dX8_take_20 (by decide) ?_
            refine lv_iconst (v := nI 1) hx hb dX8_take_24 (by decide) ?_
            refine q_callV (rest := []) C (c_X8_good1 l D cy N0 h y ms mb (ra 28) od pt fi re rc rs so ot cn la ro gr cd ca mv ct fau cs ce rn (nI 1) hY) kX8_good g1249 g1251 rfl gp41 g4 hP hS hY (by first | decide | omega) hl.1 rfl (by decide) (by first | decide | omega) dX8_take_25 (fun q ce E h' H1 locs1 hE => hE.elim) (fun v hh4 H locs hq hP hS => ?_)
            obtain ⟨rfl, rfl⟩ := hq
            replace hP : qP D N0 (qs h y (.inr (8, [.ref ms, .ref mb, .ref (ra 28), .int gr, .int 0, .int ca, .int mv, .ref od, .ref pt, .int ct, .int fau, .ref fi, .ref re, .int cs, .ref rc, .ref rs, .ref so, .ref ot, .ref cn, .ref la, .int ce, .ref ro, .int rn]))) H := hP
            obtain ⟨hv2, ehv2⟩ : ∃ z : qH, z = qs h y (.inr (8, [.ref ms, .ref mb, .ref (ra 28), .int gr, .int 0, .int ca, .int mv, .ref od, .ref pt, .int ct, .int fau, .ref fi, .ref re, .int cs, .ref rc, .ref rs, .ref so, .ref ot, .ref cn, .ref la, .int ce, .ref ro, .int rn])) := ⟨_, rfl⟩
            rw [← ehv2] at hP
            have khv2 : ∀ b o, b ≠ y → h b = some o → hv2 b = some o := by rw [ehv2]; exact fun b o nb hb => (qs_ne nb).trans hb
            replace hms := khv2 _ _ (fun q => by subst q; have := hms.symm.trans hY; first | cases this | simp at this) hms
            replace hmb := khv2 _ _ (fun q => by subst q; have := hmb.symm.trans hY; first | cases this | simp at this) hmb
            replace faw := khv2 _ _ (fun q => by have z9 := faw; rw [q] at z9; have := z9.symm.trans hY; first | cases this | simp at this) faw
            replace fkw := khv2 _ _ (fun q => by have z9 := fkw; rw [q] at z9; have := z9.symm.trans hY; first | cases this | simp at this) fkw
            replace fvw := khv2 _ _ (fun q => by have z9 := fvw; rw [q] at z9; have := z9.symm.trans hY; first | cases this | simp at this) fvw
            replace hY : hv2 y = some (.inr (8, [.ref ms, .ref mb, .ref (ra 28), .int gr, .int 0, .int ca, .int mv, .ref od, .ref pt, .int ct, .int fau, .ref fi, .ref re, .int cs, .ref rc, .ref rs, .ref so, .ref ot, .ref cn, .ref la, .int ce, .ref ro, .int rn])) := by rw [ehv2]; exact qs_self
            clear ehv2
            replace fr := fun b o hb n1 n2 => khv2 b o n1 (fr b o hb n1 n2)
            refine lv_if_eq (tgt := 73) hx hb dX8_take_28 (by decide) (fun c28 => ?_) (fun c28 => ?_)
            · replace c28 : 1 = 0 := (nI_eq (a := 1) (b := 0) (by omega) (by omega)).mp c28
              exfalso; omega
            · replace c28 : ¬ 1 = 0 := fun zq => c28 ((nI_eq (a := 1) (b := 0) (by omega) (by omega)).mpr zq)
              refine lv_aload_n hx hb dX8_take_31 rfl (lv_at hl 0 rfl) ?_
              refine lv_aload_n hx hb dX8_take_32 rfl (lv_at hl 0 rfl) ?_
              refine lv_iload_n hx hb dX8_take_33 rfl (lv_at hl 2 rfl) ?_
              refine lv_bipush (v := nI 64) hx hb dX8_take_34 (by decide) ?_
              obtain ⟨nj, rwj, Fj, Gj, hRj, hnj, hLj, hKj⟩ := hrs j (by omega)
              have apj := hRj.apart hRw (hmd.two (i := j) (j := 28) (by omega) (by omega) (by omega))
              replace hRj := hRj.keep2 (fun b o hb ho => fr b o ho (hRj.ney hY0 hb) (hb.elim (fun q => q ▸ apj.1) (fun hb => hb.elim (fun q => q ▸ apj.2.1) (fun q => q ▸ apj.2.2))))
              have faj := hRj.2.2.2.1
              have fkj := hRj.2.2.2.2.1
              have fvj := hRj.2.2.2.2.2
              unfold qRb at faj
              unfold qJr at fkj fvj
              refine q_callV (rest := [.ref y]) C (c_X8_holds l D cy N0 hv2 y ms ra rk rv j 64 _ _ _ _ _ _ _ _ hY rfl hms ⟨hRj.1, hRj.2.1, hRj.2.2.1, faj, fkj, fvj⟩ (by omega)) kX8_holds g1264 g1266 rfl gp42 g4 hP hS hY (by first | decide | omega) hl.1 rfl (by simp [q_catrf, q_cati, q_catl, q_cata, q_catn]) (by first | decide | omega) dX8_take_36 (fun q ce E h' H1 locs1 hE => hE.elim) (fun v hh5 H locs hq hP hS => ?_)
              obtain ⟨rfl, rfl⟩ := hq
              cases hoj : bHo (S j).1 64 with
              | false =>
                refine lv_iconst (v := nI 2) hx hb dX8_take_39 (by decide) ?_
                refine q_callV (rest := []) C (c_X8_good0 l D cy N0 hv2 y ms mb (ra 28) od pt fi re rc rs so ot cn la ro gr 0 ca mv ct fau cs ce rn (nI 2) hY) kX8_good g1249 g1251 rfl gp41 g4 hP hS hY (by first | decide | omega) hl.1 rfl (by decide) (by first | decide | omega) dX8_take_40 (fun q ce E h' H1 locs1 hE => hE.elim) (fun v hh6 H locs hq hP hS => ?_)
                obtain ⟨rfl, rfl⟩ := hq
                replace hP : qP D N0 (qs hv2 y (.inr (8, [.ref ms, .ref mb, .ref (ra 28), .int gr, .int (nI 2), .int ca, .int mv, .ref od, .ref pt, .int ct, .int fau, .ref fi, .ref re, .int cs, .ref rc, .ref rs, .ref so, .ref ot, .ref cn, .ref la, .int ce, .ref ro, .int rn]))) H := hP
                obtain ⟨hv3, ehv3⟩ : ∃ z : qH, z = qs hv2 y (.inr (8, [.ref ms, .ref mb, .ref (ra 28), .int gr, .int (nI 2), .int ca, .int mv, .ref od, .ref pt, .int ct, .int fau, .ref fi, .ref re, .int cs, .ref rc, .ref rs, .ref so, .ref ot, .ref cn, .ref la, .int ce, .ref ro, .int rn])) := ⟨_, rfl⟩
                rw [← ehv3] at hP
                have khv3 : ∀ b o, b ≠ y → hv2 b = some o → hv3 b = some o := by rw [ehv3]; exact fun b o nb hb => (qs_ne nb).trans hb
                replace hms := khv3 _ _ (fun q => by subst q; have := hms.symm.trans hY; first | cases this | simp at this) hms
                replace hmb := khv3 _ _ (fun q => by subst q; have := hmb.symm.trans hY; first | cases this | simp at this) hmb
                replace faw := khv3 _ _ (fun q => by have z9 := faw; rw [q] at z9; have := z9.symm.trans hY; first | cases this | simp at this) faw
                replace fkw := khv3 _ _ (fun q => by have z9 := fkw; rw [q] at z9; have := z9.symm.trans hY; first | cases this | simp at this) fkw
                replace fvw := khv3 _ _ (fun q => by have z9 := fvw; rw [q] at z9; have := z9.symm.trans hY; first | cases this | simp at this) fvw
                replace faj := khv3 _ _ (fun q => by have z9 := faj; rw [q] at z9; have := z9.symm.trans hY; first | cases this | simp at this) faj
                replace fkj := khv3 _ _ (fun q => by have z9 := fkj; rw [q] at z9; have := z9.symm.trans hY; first | cases this | simp at this) fkj
                replace fvj := khv3 _ _ (fun q => by have z9 := fvj; rw [q] at z9; have := z9.symm.trans hY; first | cases this | simp at this) fvj
                replace hY : hv3 y = some (.inr (8, [.ref ms, .ref mb, .ref (ra 28), .int gr, .int (nI 2), .int ca, .int mv, .ref od, .ref pt, .int ct, .int fau, .ref fi, .ref re, .int cs, .ref rc, .ref rs, .ref so, .ref ot, .ref cn, .ref la, .int ce, .ref ro, .int rn])) := by rw [ehv3]; exact qs_self
                clear ehv3
                replace fr := fun b o hb n1 n2 => khv3 b o n1 (fr b o hb n1 n2)
                refine lv_if_eq (tgt := 73) hx hb dX8_take_43 (by decide) (fun c43 => ?_) (fun c43 => ?_)
                · replace c43 : 0 = 0 := (nI_eq (a := 0) (b := 0) (by omega) (by omega)).mp c43
                  have eX : X = (2, S, (ms, mb, ra 28, od, pt, ro, gr, cd, ca, mv, ct, fau, rn), a, k) := by rw [← hX]; unfold xs_take; rw [if_neg (by rw [ebi, ebj]; exact fun z => z.elim (fun z => by cases z) (fun z => z.elim (fun z => by cases z) c16)), ecj, if_pos hoj]
                  obtain ⟨m8, f8⟩ := hM.fin0 hY0 (h' := hv3) ⟨hRw.1, hRw.2.1, hRw.2.2.1, faw, fkw, fvw⟩ fr
                  obtain ⟨q8, r8⟩ := hQ.rowM (o' := oCd (ms, mb, ra 28, od, pt, ro, gr, cd, ca, mv, ct, fau, rn) 2) hY0 hY m8 f8 ⟨rfl, rfl, rfl, rfl, rfl, rfl⟩
                  exact q_vret C hP hS ⟨rfl, A, by rw [eX]; exact q8, r8⟩ (by omega) dX8_take_73
                · replace c43 : ¬ 0 = 0 := fun zq => c43 ((nI_eq (a := 0) (b := 0) (by omega) (by omega)).mpr zq)
                  exfalso; omega
              | true =>
                refine lv_iconst (v := nI 2) hx hb dX8_take_39 (by decide) ?_
                refine q_callV (rest := []) C (c_X8_good1 l D cy N0 hv2 y ms mb (ra 28) od pt fi re rc rs so ot cn la ro gr 0 ca mv ct fau cs ce rn (nI 2) hY) kX8_good g1249 g1251 rfl gp41 g4 hP hS hY (by first | decide | omega) hl.1 rfl (by decide) (by first | decide | omega) dX8_take_40 (fun q ce E h' H1 locs1 hE => hE.elim) (fun v hh7 H locs hq hP hS => ?_)
                obtain ⟨rfl, rfl⟩ := hq
                replace hP : qP D N0 (qs hv2 y (.inr (8, [.ref ms, .ref mb, .ref (ra 28), .int gr, .int 0, .int ca, .int mv, .ref od, .ref pt, .int ct, .int fau, .ref fi, .ref re, .int cs, .ref rc, .ref rs, .ref so, .ref ot, .ref cn, .ref la, .int ce, .ref ro, .int rn]))) H := hP
                obtain ⟨hv4, ehv4⟩ : ∃ z : qH, z = qs hv2 y (.inr (8, [.ref ms, .ref mb, .ref (ra 28), .int gr, .int 0, .int ca, .int mv, .ref od, .ref pt, .int ct, .int fau, .ref fi, .ref re, .int cs, .ref rc, .ref rs, .ref so, .ref ot, .ref cn, .ref la, .int ce, .ref ro, .int rn])) := ⟨_, rfl⟩
                rw [← ehv4] at hP
                have khv4 : ∀ b o, b ≠ y → hv2 b = some o → hv4 b = some o := by rw [ehv4]; exact fun b o nb hb => (qs_ne nb).trans hb
                replace hms := khv4 _ _ (fun q => by subst q; have := hms.symm.trans hY; first | cases this | simp at this) hms
                replace hmb := khv4 _ _ (fun q => by subst q; have := hmb.symm.trans hY; first | cases this | simp at this) hmb
                replace faw := khv4 _ _ (fun q => by have z9 := faw; rw [q] at z9; have := z9.symm.trans hY; first | cases this | simp at this) faw
                replace fkw := khv4 _ _ (fun q => by have z9 := fkw; rw [q] at z9; have := z9.symm.trans hY; first | cases this | simp at this) fkw
                replace fvw := khv4 _ _ (fun q => by have z9 := fvw; rw [q] at z9; have := z9.symm.trans hY; first | cases this | simp at this) fvw
                replace faj := khv4 _ _ (fun q => by have z9 := faj; rw [q] at z9; have := z9.symm.trans hY; first | cases this | simp at this) faj
                replace fkj := khv4 _ _ (fun q => by have z9 := fkj; rw [q] at z9; have := z9.symm.trans hY; first | cases this | simp at this) fkj
                replace fvj := khv4 _ _ (fun q => by have z9 := fvj; rw [q] at z9; have := z9.symm.trans hY; first | cases this | simp at this) fvj
                replace hY : hv4 y = some (.inr (8, [.ref ms, .ref mb, .ref (ra 28), .int gr, .int 0, .int ca, .int mv, .ref od, .ref pt, .int ct, .int fau, .ref fi, .ref re, .int cs, .ref rc, .ref rs, .ref so, .ref ot, .ref cn, .ref la, .int ce, .ref ro, .int rn])) := by rw [ehv4]; exact qs_self
                clear ehv4
                replace fr := fun b o hb n1 n2 => khv4 b o n1 (fr b o hb n1 n2)
                refine lv_if_eq (tgt := 73) hx hb dX8_take_43 (by decide) (fun c43 => ?_) (fun c43 => ?_)
                · replace c43 : 1 = 0 := (nI_eq (a := 1) (b := 0) (by omega) (by omega)).mp c43
                  exfalso; omega
                · replace c43 : ¬ 1 = 0 := fun zq => c43 ((nI_eq (a := 1) (b := 0) (by omega) (by omega)).mpr zq)
                  refine lv_aload_n hx hb dX8_take_46 rfl (lv_at hl 0 rfl) ?_
                  refine lv_aload_n hx hb dX8_take_47 rfl (lv_at hl 0 rfl) ?_
                  refine q_get C hP hY rfl inX8 0 (by decide) g1167 rfl dX8_take_48 ?_
                  refine lv_iload_n hx hb dX8_take_51 rfl (lv_at hl 2 rfl) ?_
                  refine q_aaldR C hP hms rfl (by omega) (by omega) rfl dX8_take_52 ?_
                  refine q_get C hP faj rfl inX7 5 (by decide) g1145 rfl dX8_take_53 ?_
                  refine lv_bipush (v := nI 100) hx hb dX8_take_56 (by decide) ?_
                  refine lv_icmp_ge (tgt := 65) hx hb dX8_take_58 (by decide) (fun c58 => ?_) (fun c58 => ?_)
                  · replace c58 : 100 ≤ ((S j).2.2.2) := (nI_leI (a := 100) (b := (S j).2.2.2) (by omega) (by omega)).mp c58
                    refine lv_iconst (v := nI 0) hx hb dX8_take_65 (by decide) ?_
                    refine lv_iconst (v := nI 3) hx hb dX8_take_66 (by decide) ?_
                    refine q_callV (rest := []) C (c_X8_good0 l D cy N0 hv4 y ms mb (ra 28) od pt fi re rc rs so ot cn la ro gr 0 ca mv ct fau cs ce rn (nI 3) hY) kX8_good g1249 g1251 rfl gp41 g4 hP hS hY (by first | decide | omega) hl.1 rfl (by decide) (by first | decide | omega) dX8_take_67 (fun q ce E h' H1 locs1 hE => hE.elim) (fun v hh8 H locs hq hP hS => ?_)
                    obtain ⟨rfl, rfl⟩ := hq
                    replace hP : qP D N0 (qs hv4 y (.inr (8, [.ref ms, .ref mb, .ref (ra 28), .int gr, .int (nI 3), .int ca, .int mv, .ref od, .ref pt, .int ct, .int fau, .ref fi, .ref re, .int cs, .ref rc, .ref rs, .ref so, .ref ot, .ref cn, .ref la, .int ce, .ref ro, .int rn]))) H := hP
                    obtain ⟨hv5, ehv5⟩ : ∃ z : qH, z = qs hv4 y (.inr (8, [.ref ms, .ref mb, .ref (ra 28), .int gr, .int (nI 3), .int ca, .int mv, .ref od, .ref pt, .int ct, .int fau, .ref fi, .ref re, .int cs, .ref rc, .ref rs, .ref so, .ref ot, .ref cn, .ref la, .int ce, .ref ro, .int rn])) := ⟨_, rfl⟩
                    rw [← ehv5] at hP
                    have khv5 : ∀ b o, b ≠ y → hv4 b = some o → hv5 b = some o := by rw [ehv5]; exact fun b o nb hb => (qs_ne nb).trans hb
                    replace hms := khv5 _ _ (fun q => by subst q; have := hms.symm.trans hY; first | cases this | simp at this) hms
                    replace hmb := khv5 _ _ (fun q => by subst q; have := hmb.symm.trans hY; first | cases this | simp at this) hmb
                    replace faw := khv5 _ _ (fun q => by have z9 := faw; rw [q] at z9; have := z9.symm.trans hY; first | cases this | simp at this) faw
                    replace fkw := khv5 _ _ (fun q => by have z9 := fkw; rw [q] at z9; have := z9.symm.trans hY; first | cases this | simp at this) fkw
                    replace fvw := khv5 _ _ (fun q => by have z9 := fvw; rw [q] at z9; have := z9.symm.trans hY; first | cases this | simp at this) fvw
                    replace faj := khv5 _ _ (fun q => by have z9 := faj; rw [q] at z9; have := z9.symm.trans hY; first | cases this | simp at this) faj
                    replace fkj := khv5 _ _ (fun q => by have z9 := fkj; rw [q] at z9; have := z9.symm.trans hY; first | cases this | simp at this) fkj
                    replace fvj := khv5 _ _ (fun q => by have z9 := fvj; rw [q] at z9; have := z9.symm.trans hY; first | cases this | simp at this) fvj
                    replace hY : hv5 y = some (.inr (8, [.ref ms, .ref mb, .ref (ra 28), .int gr, .int (nI 3), .int ca, .int mv, .ref od, .ref pt, .int ct, .int fau, .ref fi, .ref re, .int cs, .ref rc, .ref rs, .ref so, .ref ot, .ref cn, .ref la, .int ce, .ref ro, .int rn])) := by rw [ehv5]; exact qs_self
                    clear ehv5
                    replace fr := fun b o hb n1 n2 => khv5 b o n1 (fr b o hb n1 n2)
                    refine lv_if_ne (tgt := 74) hx hb dX8_take_70 (by decide) (fun c70 => ?_) (fun c70 => ?_)
                    · replace c70 : ¬ 0 = 0 := fun zq => c70 ((nI_eq (a := 0) (b := 0) (by omega) (by omega)).mpr zq)
                      exfalso; omega
                    · replace c70 : 0 = 0 := (nI_eq (a := 0) (b := 0) (by omega) (by omega)).mp c70
                      have eX : X = (3, S, (ms, mb, ra 28, od, pt, ro, gr, cd, ca, mv, ct, fau, rn), a, k) := by rw [← hX]; unfold xs_take; rw [if_neg (by rw [ebi, ebj]; exact fun z => z.elim (fun z => by cases z) (fun z => z.elim (fun z => by cases z) c16)), ecj, if_neg (by rw [hoj]; decide), if_pos (by omega)]
                      obtain ⟨m8, f8⟩ := hM.fin0 hY0 (h' := hv5) ⟨hRw.1, hRw.2.1, hRw.2.2.1, faw, fkw, fvw⟩ fr
                      obtain ⟨q8, r8⟩ := hQ.rowM (o' := oCd (ms, mb, ra 28, od, pt, ro, gr, cd, ca, mv, ct, fau, rn) 3) hY0 hY m8 f8 ⟨rfl, rfl, rfl, rfl, rfl, rfl⟩
                      exact q_vret C hP hS ⟨rfl, A, by rw [eX]; exact q8, r8⟩ (by omega) dX8_take_73
                  · replace c58 : ¬ 100 ≤ ((S j).2.2.2) := fun zq => c58 ((nI_leI (a := 100) (b := (S j).2.2.2) (by omega) (by omega)).mpr zq)
                    refine lv_iconst (v := nI 1) hx hb dX8_take_61 (by decide) ?_
                    refine lv_goto (tgt := 66) hx hb dX8_take_62 (by decide) ?_
                    refine lv_iconst (v := nI 3) hx hb dX8_take_66 (by decide) ?_
                    refine q_callV (rest := []) C (c_X8_good1 l D cy N0 hv4 y ms mb (ra 28) od pt fi re rc rs so ot cn la ro gr 0 ca mv ct fau cs ce rn (nI 3) hY) kX8_good g1249 g1251 rfl gp41 g4 hP hS hY (by first | decide | omega) hl.1 rfl (by decide) (by first | decide | omega) dX8_take_67 (fun q ce E h' H1 locs1 hE => hE.elim) (fun v hh9 H locs hq hP hS => ?_)
                    obtain ⟨rfl, rfl⟩ := hq
                    replace hP : qP D N0 (qs hv4 y (.inr (8, [.ref ms, .ref mb, .ref (ra 28), .int gr, .int 0, .int ca, .int mv, .ref od, .ref pt, .int ct, .int fau, .ref fi, .ref re, .int cs, .ref rc, .ref rs, .ref so, .ref ot, .ref cn, .ref la, .int ce, .ref ro, .int rn]))) H := hP
                    obtain ⟨hv6, ehv6⟩ : ∃ z : qH, z = qs hv4 y (.inr (8, [.ref ms, .ref mb, .ref (ra 28), .int gr, .int 0, .int ca, .int mv, .ref od, .ref pt, .int ct, .int fau, .ref fi, .ref re, .int cs, .ref rc, .ref rs, .ref so, .ref ot, .ref cn, .ref la, .int ce, .ref ro, .int rn])) := ⟨_, rfl⟩
                    rw [← ehv6] at hP
                    have khv6 : ∀ b o, b ≠ y → hv4 b = some o → hv6 b = some o := by rw [ehv6]; exact fun b o nb hb => (qs_ne nb).trans hb
                    replace hms := khv6 _ _ (fun q => by subst q; have := hms.symm.trans hY; first | cases this | simp at this) hms
                    replace hmb := khv6 _ _ (fun q => by subst q; have := hmb.symm.trans hY; first | cases this | simp at this) hmb
                    replace faw := khv6 _ _ (fun q => by have z9 := faw; rw [q] at z9; have := z9.symm.trans hY; first | cases this | simp at this) faw
                    replace fkw := khv6 _ _ (fun q => by have z9 := fkw; rw [q] at z9; have := z9.symm.trans hY; first | cases this | simp at this) fkw
                    replace fvw := khv6 _ _ (fun q => by have z9 := fvw; rw [q] at z9; have := z9.symm.trans hY; first | cases this | simp at this) fvw
                    replace faj := khv6 _ _ (fun q => by have z9 := faj; rw [q] at z9; have := z9.symm.trans hY; first | cases this | simp at this) faj
                    replace fkj := khv6 _ _ (fun q => by have z9 := fkj; rw [q] at z9; have := z9.symm.trans hY; first | cases this | simp at this) fkj
                    replace fvj := khv6 _ _ (fun q => by have z9 := fvj; rw [q] at z9; have := z9.symm.trans hY; first | cases this | simp at this) fvj
                    replace hY : hv6 y = some (.inr (8, [.ref ms, .ref mb, .ref (ra 28), .int gr, .int 0, .int ca, .int mv, .ref od, .ref pt, .int ct, .int fau, .ref fi, .ref re, .int cs, .ref rc, .ref rs, .ref so, .ref ot, .ref cn, .ref la, .int ce, .ref ro, .int rn])) := by rw [ehv6]; exact qs_self
                    clear ehv6
                    replace fr := fun b o hb n1 n2 => khv6 b o n1 (fr b o hb n1 n2)
                    refine lv_if_ne (tgt := 74) hx hb dX8_take_70 (by decide) (fun c70 => ?_) (fun c70 => ?_)
                    · replace c70 : ¬ 1 = 0 := fun zq => c70 ((nI_eq (a := 1) (b := 0) (by omega) (by omega)).mpr zq)
                      refine lv_aload_n hx hb dX8_take_74 rfl (lv_at hl 0 rfl) ?_
                      refine q_get C hP hY rfl inX8 0 (by decide) g1167 rfl dX8_take_75 ?_
                      refine lv_iload_n hx hb dX8_take_78 rfl (lv_at hl 2 rfl) ?_
                      refine q_aaldR C hP hms rfl (by omega) (by omega) rfl dX8_take_79 ?_
                      refine lv_aload_n hx hb dX8_take_80 rfl (lv_at hl 0 rfl) ?_
                      refine q_get C hP hY rfl inX8 2 (by decide) g1169 rfl dX8_take_81 ?_
                      refine q_callS (rest := []) C (c_X8_copy l D cy N0 hv6 (ra j) (rk j) (rv j) (S j).1 (nI (S j).2.2.1) (nI (S j).2.2.2) rwj nj Fj Gj (ra 28) (rk 28) (rv 28) kdw smw dpw rww nw fw gw ⟨hRj.1, hRj.2.1, hRj.2.2.1, faj, fkj, fvj⟩ ⟨hRw.1, hRw.2.1, hRw.2.2.1, faw, fkw, fvw⟩ apj (by omega)) kX8_copy g1257 g1258 hP hS (by first | decide | omega) hl.1 rfl (by decide) (by first | decide | omega) dX8_take_84 (fun q ce E h' H1 locs1 hE => hE.elim) (fun v hh10 H locs hq hP hS => ?_)
                      obtain ⟨rfl, rfl⟩ := hq
                      obtain ⟨hv7, ehv7⟩ : ∃ z : qH, z = qRh cy hv6 (ra 28) (rk 28) (rv 28) ((S j).1) (nI nj) (nI (S j).2.2.1) (nI (S j).2.2.2) rwj (qCp Fj fw nj) (qCp Gj gw nj) := ⟨_, rfl⟩
                      rw [← ehv7] at hP
                      have r9 : qRw cy hv7 (ra 28) (rk 28) (rv 28) ((S j).1) (nI nj) (nI (S j).2.2.1) (nI (S j).2.2.2) rwj (qCp Fj fw nj) (qCp Gj gw nj) := by rw [ehv7]; exact qRw.new (cy := cy) (h := hv6) (kd := kdw) (n := (nI nw)) (sm := smw) (dp := dpw) (rw := rww) (f := fw) (g := gw) ⟨hRw.1, hRw.2.1, hRw.2.2.1, faw, fkw, fvw⟩
                      have khv7 : ∀ b o, qOf (ra 28) (rk 28) (rv 28) b → hv6 b = some o → hv7 b = some o := by rw [ehv7]; exact fun b o q hb => (qRh_o q.1 q.2.1 q.2.2).trans hb
                      replace hY := khv7 _ _ ⟨fun q => by rw [q] at hY; have := faw.symm.trans hY; first | cases this | simp at this, fun q => by rw [q] at hY; have := fkw.symm.trans hY; first | cases this | simp at this, fun q => by rw [q] at hY; have := fvw.symm.trans hY; first | cases this | simp at this⟩ hY
                      replace hms := khv7 _ _ ⟨fun q => by rw [q] at hms; have := faw.symm.trans hms; first | cases this | simp at this, fun q => by rw [q] at hms; have := fkw.symm.trans hms; first | cases this | simp at this, fun q => by rw [q] at hms; have := fvw.symm.trans hms; first | cases this | simp at this⟩ hms
                      replace hmb := khv7 _ _ ⟨fun q => by rw [q] at hmb; have := faw.symm.trans hmb; first | cases this | simp at this, fun q => by rw [q] at hmb; have := fkw.symm.trans hmb; first | cases this | simp at this, fun q => by rw [q] at hmb; have := fvw.symm.trans hmb; first | cases this | simp at this⟩ hmb
                      replace faj := khv7 _ _ apj.1 faj
                      replace fkj := khv7 _ _ apj.2.1 fkj
                      replace fvj := khv7 _ _ apj.2.2 fvj
                      replace fr := fun b o hb n1 n2 => khv7 b o n2 (fr b o hb n1 n2)
                      clear faw fkw fvw
                      have faw := r9.2.2.2.1
                      have fkw := r9.2.2.2.2.1
                      have fvw := r9.2.2.2.2.2
                      unfold qRb at faw
                      unfold qJr at fkw fvw
                      clear r9 ehv7
                      have lw : qLs ((S j).1) (qCp Fj fw nj) (qCp Gj gw nj) nj = (S j).2.1 := by rw [qLs_cp]; exact hLj.symm
                      refine lv_aload_n hx hb dX8_take_87 rfl (lv_at hl 0 rfl) ?_
                      refine q_get C hP hY rfl inX8 2 (by decide) g1169 rfl dX8_take_88 ?_
                      refine lv_aload_n hx hb dX8_take_91 rfl (lv_at hl 0 rfl) ?_
                      refine lv_aload_n hx hb dX8_take_92 rfl (lv_at hl 0 rfl) ?_
                      refine q_get C hP hY rfl inX8 2 (by decide) g1169 rfl dX8_take_93 ?_
                      refine q_get C hP faw rfl inX7 4 (by decide) g1144 rfl dX8_take_96 ?_
                      refine lv_iload_n hx hb dX8_take_99 rfl (lv_at hl 3 rfl) ?_
                      have hs8 := hSt j (by omega) (bHo_64 (hI j (by omega)).2.2 hoj)
                      have hL8 := (hV.L hB).1
                      have hLn := (hV.L hB).2
                      have eX : X = (0, qU S i ((S j).1, (S j).2.1, (xTak a k (S j).2.2.1 q).1, (S j).2.2.2 + 1), (ms, mb, ra 28, od, pt, ro, gr, cd, ca, mv, ct, fau, rn), (xTak a k (S j).2.2.1 q).2) := by rw [← hX]; unfold xs_take; rw [if_neg (by rw [ebi, ebj]; exact fun z => z.elim (fun z => by cases z) (fun z => z.elim (fun z => by cases z) c16)), ecj, if_neg (by rw [hoj]; decide), if_neg (fun z => z (by omega)), eci, ecq]
                      obtain ⟨ep1, ep2⟩ := xTak_P hV (s := (S j).2.2.1) (n := q)
                      have eP1 : qP1 X.2.2.2.1 = qP1 (xTak a k (S j).2.2.1 q).2.1 := by rw [eX]
                      have eP2 : qP2 X.2.2.2.1 = qP2 (xTak a k (S j).2.2.1 q).2.1 := by rw [eX]
                      obtain ⟨m8, f8⟩ := hM.fin0 hY0 (h' := hv7) ⟨hRw.1, hRw.2.1, hRw.2.2.1, faw, fkw, fvw⟩ fr
                      obtain ⟨q8, r8⟩ := hQ.rowM (o' := (oCd (ms, mb, ra 28, od, pt, ro, gr, cd, ca, mv, ct, fau, rn) 0)) hY0 hY m8 f8 ⟨rfl, rfl, rfl, rfl, rfl, rfl⟩
                      refine q_callV (rest := [.ref (ra 28)]) C (w_taken l D cy N0 hv7 y A (oCd (ms, mb, ra 28, od, pt, ro, gr, cd, ca, mv, ct, fau, rn) 0) a k (S j).2.2.1 q q8.1 q8.2.1 hL8 ⟨hs8.1, by omega⟩ (by omega)) kX8_taken g1359 g1361 rfl gp57 g4 hP hS hY (by first | decide | omega) hl.1 rfl (by simp [q_catrf, q_cati, q_catl, q_cata, q_catn]) (by first | decide | omega) dX8_take_100 (fun q ce E h' H1 locs1 hE => hE.elim) (fun v hh11 H locs hq hP hS => ?_)
                      obtain ⟨rfl, A1, hS1, hF1, nA1⟩ := hq
                      have ap9 := q8.2.2.2.2.2
                      replace hms := hF1.1 _ _ hms (qne_arr (cy := cy) hms hY) ap9.two.1
                      replace hmb := hF1.1 _ _ hmb (qne_arr (cy := cy) hmb hY) ap9.two.2
                      replace faw := hF1.1 _ _ faw (fun z => by rw [z] at faw; have := faw.symm.trans hY; cases this) (ap9.row (i := 28) (by omega)).1
                      replace fkw := hF1.1 _ _ fkw (qne_arr (cy := cy) fkw hY) (ap9.row (i := 28) (by omega)).2.1
                      replace fvw := hF1.1 _ _ fvw (qne_arr (cy := cy) fvw hY) (ap9.row (i := 28) (by omega)).2.2
                      replace faj := hF1.1 _ _ faj (fun z => by rw [z] at faj; have := faj.symm.trans hY; cases this) (ap9.row (i := j) (by omega)).1
                      replace fkj := hF1.1 _ _ fkj (qne_arr (cy := cy) fkj hY) (ap9.row (i := j) (by omega)).2.1
                      replace fvj := hF1.1 _ _ fvj (qne_arr (cy := cy) fvj hY) (ap9.row (i := j) (by omega)).2.2
                      obtain ⟨q7a, r7a⟩ := q8.str hS1 hF1 nA1 ⟨rfl, rfl, rfl, rfl, rfl, rfl⟩
                      have rta := r8.tr q8 rfl r7a
                      clear hY
                      obtain ⟨fja, rja, rcja, rsja, soja, otja, cnja, laja, hY⟩ := q7a.1.yo2
                      unfold qYo at hY
                      have hY0 := hY
                      have hM := q7a.2.2.1
                      have hrs := hM.2.2.2.2.1
                      replace hRw : qRw cy hh11 (ra 28) (rk 28) (rv 28) ((S j).1) (nI nj) (nI (S j).2.2.1) (nI (S j).2.2.2) rwj (qCp Fj fw nj) (qCp Gj gw nj) := ⟨hRw.1, hRw.2.1, hRw.2.2.1, faw, fkw, fvw⟩
                      replace fr : ∀ b o, hh11 b = some o → b ≠ y → qOf (ra 28) (rk 28) (rv 28) b → hh11 b = some o := fun b o hb _ _ => hb
                      refine q_put C hP hS faw rfl inX7 tyX7 tyX7_ok nmX7 4 (by decide) g1144 rfl rfl rfl (Nat.le_of_ble_eq_true rfl) dX8_take_103 (fun H locs hP hS => ?_)
                      replace hP : qP D N0 (qs hh11 (ra 28) (.inr (7, [.ref (rk 28), .ref (rv 28), .int (S j).1, .int (nI nj), .int (nI (xTak a k (S j).2.2.1 q).1), .int (nI (S j).2.2.2), .int rwj]))) H := hP
                      obtain ⟨hv8, ehv8⟩ : ∃ z : qH, z = qs hh11 (ra 28) (.inr (7, [.ref (rk 28), .ref (rv 28), .int (S j).1, .int (nI nj), .int (nI (xTak a k (S j).2.2.1 q).1), .int (nI (S j).2.2.2), .int rwj])) := ⟨_, rfl⟩
                      rw [← ehv8] at hP
                      have khv8 : ∀ b o, b ≠ (ra 28) → hh11 b = some o → hv8 b = some o := by rw [ehv8]; exact fun b o nb hb => (qs_ne nb).trans hb
                      replace hY := khv8 _ _ (fun q => by have z9 := hY; rw [q] at z9; have := z9.symm.trans faw; first | cases this | simp at this) hY
                      replace hms := khv8 _ _ (fun q => by have z9 := hms; rw [q] at z9; have := z9.symm.trans faw; first | cases this | simp at this) hms
                      replace hmb := khv8 _ _ (fun q => by have z9 := hmb; rw [q] at z9; have := z9.symm.trans faw; first | cases this | simp at this) hmb
                      replace fkw := khv8 _ _ (fun q => by have z9 := fkw; rw [q] at z9; have := z9.symm.trans faw; first | cases this | simp at this) fkw
                      replace fvw := khv8 _ _ (fun q => by have z9 := fvw; rw [q] at z9; have := z9.symm.trans faw; first | cases this | simp at this) fvw
                      replace faj := khv8 _ _ apj.1.1 faj
                      replace fkj := khv8 _ _ apj.2.1.1 fkj
                      replace fvj := khv8 _ _ apj.2.2.1 fvj
                      replace faw : hv8 (ra 28) = some (.inr (7, [.ref (rk 28), .ref (rv 28), .int (S j).1, .int (nI nj), .int (nI (xTak a k (S j).2.2.1 q).1), .int (nI (S j).2.2.2), .int rwj])) := by rw [ehv8]; exact qs_self
                      clear ehv8
                      replace fr := fun b o hb n1 n2 => khv8 b o n2.1 (fr b o hb n1 n2)
                      refine lv_aload_n hx hb dX8_take_106 rfl (lv_at hl 0 rfl) ?_
                      refine q_get C hP hY rfl inX8 2 (by decide) g1169 rfl dX8_take_107 ?_
                      refine lv_dup hx hb dX8_take_110 rfl ?_
                      refine q_get C hP faw rfl inX7 5 (by decide) g1145 rfl dX8_take_111 ?_
                      refine lv_iconst (v := nI 1) hx hb dX8_take_114 (by decide) ?_
                      refine q_iaddN hx hb dX8_take_115 ?_
                      refine q_put C hP hS faw rfl inX7 tyX7 tyX7_ok nmX7 5 (by decide) g1145 rfl rfl rfl (Nat.le_of_ble_eq_true rfl) dX8_take_116 (fun H locs hP hS => ?_)
                      replace hP : qP D N0 (qs hv8 (ra 28) (.inr (7, [.ref (rk 28), .ref (rv 28), .int (S j).1, .int (nI nj), .int (nI (xTak a k (S j).2.2.1 q).1), .int (nI (((S j).2.2.2) + 1)), .int rwj]))) H := hP
                      obtain ⟨hv9, ehv9⟩ : ∃ z : qH, z = qs hv8 (ra 28) (.inr (7, [.ref (rk 28), .ref (rv 28), .int (S j).1, .int (nI nj), .int (nI (xTak a k (S j).2.2.1 q).1), .int (nI (((S j).2.2.2) + 1)), .int rwj])) := ⟨_, rfl⟩
                      rw [← ehv9] at hP
                      have khv9 : ∀ b o, b ≠ (ra 28) → hv8 b = some o → hv9 b = some o := by rw [ehv9]; exact fun b o nb hb => (qs_ne nb).trans hb
                      replace hY := khv9 _ _ (fun q => by have z9 := hY; rw [q] at z9; have := z9.symm.trans faw; first | cases this | simp at this) hY
                      replace hms := khv9 _ _ (fun q => by have z9 := hms; rw [q] at z9; have := z9.symm.trans faw; first | cases this | simp at this) hms
                      replace hmb := khv9 _ _ (fun q => by have z9 := hmb; rw [q] at z9; have := z9.symm.trans faw; first | cases this | simp at this) hmb
                      replace fkw := khv9 _ _ (fun q => by have z9 := fkw; rw [q] at z9; have := z9.symm.trans faw; first | cases this | simp at this) fkw
                      replace fvw := khv9 _ _ (fun q => by have z9 := fvw; rw [q] at z9; have := z9.symm.trans faw; first | cases this | simp at this) fvw
                      replace faj := khv9 _ _ apj.1.1 faj
                      replace fkj := khv9 _ _ apj.2.1.1 fkj
                      replace fvj := khv9 _ _ apj.2.2.1 fvj
                      replace faw : hv9 (ra 28) = some (.inr (7, [.ref (rk 28), .ref (rv 28), .int (S j).1, .int (nI nj), .int (nI (xTak a k (S j).2.2.1 q).1), .int (nI (((S j).2.2.2) + 1)), .int rwj])) := by rw [ehv9]; exact qs_self
                      clear ehv9
                      replace fr := fun b o hb n1 n2 => khv9 b o n2.1 (fr b o hb n1 n2)
                      refine lv_aload_n hx hb dX8_take_119 rfl (lv_at hl 0 rfl) ?_
                      refine lv_iload_n hx hb dX8_take_120 rfl (lv_at hl 1 rfl) ?_
                      refine lv_iconst (v := nI 0) hx hb dX8_take_121 (by decide) ?_
                      obtain ⟨ni, rwi, Fi, Gi, hRi, hni, hLi, hKi⟩ := hrs i (by omega)
                      have api := hRi.apart hRw (hmd.two (i := i) (j := 28) (by omega) (by omega) (by omega))
                      replace hRi := hRi.keep2 (fun b o hb ho => fr b o ho (hRi.ney hY0 hb) (hb.elim (fun q => q ▸ api.1) (fun hb => hb.elim (fun q => q ▸ api.2.1) (fun q => q ▸ api.2.2))))
                      have fai := hRi.2.2.2.1
                      have fki := hRi.2.2.2.2.1
                      have fvi := hRi.2.2.2.2.2
                      unfold qRb at fai
                      unfold qJr at fki fvi
                      refine q_callV (rest := []) C (c_X8_done l D cy N0 hv9 y ms mb od pt fja rja rcja rsja soja otja cnja laja ro gr 0 ca mv ct fau (nI (xTak a k (S j).2.2.1 q).2.1.1) (nI (xTak a k (S j).2.2.1 q).2.2.1) rn ra rk rv i (nI 0) (S j).1 (nI (xTak a k (S j).2.2.1 q).1) (nI (((S j).2.2.2) + 1)) rwj nj (qCp Fj fw nj) (qCp Gj gw nj) (S i).1 (nI (S i).2.2.1) (nI (S i).2.2.2) rwi ni Fi Gi hY hms hmd ⟨hRw.1, hRw.2.1, hRw.2.2.1, faw, fkw, fvw⟩ ⟨hRi.1, hRi.2.1, hRi.2.2.1, fai, fki, fvi⟩ (by omega) (by omega)) kX8_done g1293 g1295 rfl gp45 g4 hP hS hY (by first | decide | omega) hl.1 rfl (by decide) (by first | decide | omega) dX8_take_122 (fun q ce E h' H1 locs1 hE => hE.elim) (fun v hh12 H locs hq hP hS => ?_)
                      obtain ⟨rfl, hY9, hw9, hi9, fr9⟩ := hq
                      replace fr := fun b o hb n1 n2 n3 => fr9 b o (fr b o hb n1 n2) n1 n2 n3
                      rw [show mv + nI 0 = mv from Int32.add_zero _] at hY9
                      refine lv_pop hx hb dX8_take_125 rfl ?_
                      obtain ⟨m9, f9⟩ := hM.fin hY0 (i := i) (by omega) (s := ((S j).1, (S j).2.1, (xTak a k (S j).2.2.1 q).1, (((S j).2.2.2) + 1))) ⟨nj, _, _, _, hi9, by omega, by rw [qLs_cp]; exact lw.symm, Or.inl rfl⟩ hw9 fr
                      obtain ⟨q9, r9⟩ := q7a.rowM (o' := (oCd (ms, mb, ra 28, od, pt, ro, gr, cd, ca, mv, ct, fau, rn) 0)) hY0 hY9 m9 f9 ⟨rfl, rfl, rfl, rfl, rfl, rfl⟩
                      exact q_vret C hP hS ⟨rfl, A1, by rw [eX]; exact q9, rta.tr q7a rfl r9⟩ (by omega) dX8_take_126
                    · replace c70 : 1 = 0 := (nI_eq (a := 1) (b := 0) (by omega) (by omega)).mp c70
                      exfalso; omega
      · have ebj : bSl p1 = false := bSl_f sl9
        refine lv_if_eq (tgt := 23) hx hb dX8_take_12 (by decide) (fun c12 => ?_) (fun c12 => ?_)
        · replace c12 : 0 = 0 := (nI_eq (a := 0) (b := 0) (by omega) (by omega)).mp c12
          refine lv_iconst (v := nI 0) hx hb dX8_take_23 (by decide) ?_
          refine lv_iconst (v := nI 1) hx hb dX8_take_24 (by decide) ?_
          refine q_callV (rest := []) C (c_X8_good0 l D cy N0 h y ms mb (ra 28) od pt fi re rc rs so ot cn la ro gr cd ca mv ct fau cs ce rn (nI 1) hY) kX8_good g1249 g1251 rfl gp41 g4 hP hS hY (by first | decide | omega) hl.1 rfl (by decide) (by first | decide | omega) dX8_take_25 (fun q ce E h' H1 locs1 hE => hE.elim) (fun v hh13 H locs hq hP hS => ?_)
          obtain ⟨rfl, rfl⟩ := hq
          replace hP : qP D N0 (qs h y (.inr (8, [.ref ms, .ref mb, .ref (ra 28), .int gr, .int (nI 1), .int ca, .int mv, .ref od, .ref pt, .int ct, .int fau, .ref fi, .ref re, .int cs, .ref rc, .ref rs, .ref so, .ref ot, .ref cn, .ref la, .int ce, .ref ro, .int rn]))) H := hP
          obtain ⟨hv10, ehv10⟩ : ∃ z : qH, z = qs h y (.inr (8, [.ref ms, .ref mb, .ref (ra 28), .int gr, .int (nI 1), .int ca, .int mv, .ref od, .ref pt, .int ct, .int fau, .ref fi, .ref re, .int cs, .ref rc, .ref rs, .ref so, .ref ot, .ref cn, .ref la, .int ce, .ref ro, .int rn])) := ⟨_, rfl⟩
          rw [← ehv10] at hP
          have khv10 : ∀ b o, b ≠ y → h b = some o → hv10 b = some o := by rw [ehv10]; exact fun b o nb hb => (qs_ne nb).trans hb
          replace hms := khv10 _ _ (fun q => by subst q; have := hms.symm.trans hY; first | cases this | simp at this) hms
          replace hmb := khv10 _ _ (fun q => by subst q; have := hmb.symm.trans hY; first | cases this | simp at this) hmb
          replace faw := khv10 _ _ (fun q => by have z9 := faw; rw [q] at z9; have := z9.symm.trans hY; first | cases this | simp at this) faw
          replace fkw := khv10 _ _ (fun q => by have z9 := fkw; rw [q] at z9; have := z9.symm.trans hY; first | cases this | simp at this) fkw
          replace fvw := khv10 _ _ (fun q => by have z9 := fvw; rw [q] at z9; have := z9.symm.trans hY; first | cases this | simp at this) fvw
          replace hY : hv10 y = some (.inr (8, [.ref ms, .ref mb, .ref (ra 28), .int gr, .int (nI 1), .int ca, .int mv, .ref od, .ref pt, .int ct, .int fau, .ref fi, .ref re, .int cs, .ref rc, .ref rs, .ref so, .ref ot, .ref cn, .ref la, .int ce, .ref ro, .int rn])) := by rw [ehv10]; exact qs_self
          clear ehv10
          replace fr := fun b o hb n1 n2 => khv10 b o n1 (fr b o hb n1 n2)
          refine lv_if_eq (tgt := 73) hx hb dX8_take_28 (by decide) (fun c28 => ?_) (fun c28 => ?_)
          · replace c28 : 0 = 0 := (nI_eq (a := 0) (b := 0) (by omega) (by omega)).mp c28
            have eX : X = (1, S, (ms, mb, ra 28, od, pt, ro, gr, cd, ca, mv, ct, fau, rn), a, k) := by rw [← hX]; unfold xs_take; rw [if_pos (by simp [ebi, ebj])]
            obtain ⟨m8, f8⟩ := hM.fin0 hY0 (h' := hv10) ⟨hRw.1, hRw.2.1, hRw.2.2.1, faw, fkw, fvw⟩ fr
            obtain ⟨q8, r8⟩ := hQ.rowM (o' := oCd (ms, mb, ra 28, od, pt, ro, gr, cd, ca, mv, ct, fau, rn) 1) hY0 hY m8 f8 ⟨rfl, rfl, rfl, rfl, rfl, rfl⟩
            exact q_vret C hP hS ⟨rfl, A, by rw [eX]; exact q8, r8⟩ (by omega) dX8_take_73
          · replace c28 : ¬ 0 = 0 := fun zq => c28 ((nI_eq (a := 0) (b := 0) (by omega) (by omega)).mpr zq)
            exfalso; omega
        · replace c12 : ¬ 0 = 0 := fun zq => c12 ((nI_eq (a := 0) (b := 0) (by omega) (by omega)).mpr zq)
          exfalso; omega
  · have ebi : bSl p0 = false := bSl_f sl9
    refine lv_if_eq (tgt := 23) hx hb dX8_take_5 (by decide) (fun c5 => ?_) (fun c5 => ?_)
    · replace c5 : 0 = 0 := (nI_eq (a := 0) (b := 0) (by omega) (by omega)).mp c5
      refine lv_iconst (v := nI 0) hx hb dX8_take_23 (by decide) ?_
      refine lv_iconst (v := nI 1) hx hb dX8_take_24 (by decide) ?_
      refine q_callV (rest := []) C (c_X8_good0 l D cy N0 h y ms mb (ra 28) od pt fi re rc rs so ot cn la ro gr cd ca mv ct fau cs ce rn (nI 1) hY) kX8_good g1249 g1251 rfl gp41 g4 hP hS hY (by first | decide | omega) hl.1 rfl (by decide) (by first | decide | omega) dX8_take_25 (fun q ce E h' H1 locs1 hE => hE.elim) (fun v hh14 H locs hq hP hS => ?_)
      obtain ⟨rfl, rfl⟩ := hq
      replace hP : qP D N0 (qs h y (.inr (8, [.ref ms, .ref mb, .ref (ra 28), .int gr, .int (nI 1), .int ca, .int mv, .ref od, .ref pt, .int ct, .int fau, .ref fi, .ref re, .int cs, .ref rc, .ref rs, .ref so, .ref ot, .ref cn, .ref la, .int ce, .ref ro, .int rn]))) H := hP
      obtain ⟨hv11, ehv11⟩ : ∃ z : qH, z = qs h y (.inr (8, [.ref ms, .ref mb, .ref (ra 28), .int gr, .int (nI 1), .int ca, .int mv, .ref od, .ref pt, .int ct, .int fau, .ref fi, .ref re, .int cs, .ref rc, .ref rs, .ref so, .ref ot, .ref cn, .ref la, .int ce, .ref ro, .int rn])) := ⟨_, rfl⟩
      rw [← ehv11] at hP
      have khv11 : ∀ b o, b ≠ y → h b = some o → hv11 b = some o := by rw [ehv11]; exact fun b o nb hb => (qs_ne nb).trans hb
      replace hms := khv11 _ _ (fun q => by subst q; have := hms.symm.trans hY; first | cases this | simp at this) hms
      replace hmb := khv11 _ _ (fun q => by subst q; have := hmb.symm.trans hY; first | cases this | simp at this) hmb
      replace faw := khv11 _ _ (fun q => by have z9 := faw; rw [q] at z9; have := z9.symm.trans hY; first | cases this | simp at this) faw
      replace fkw := khv11 _ _ (fun q => by have z9 := fkw; rw [q] at z9; have := z9.symm.trans hY; first | cases this | simp at this) fkw
      replace fvw := khv11 _ _ (fun q => by have z9 := fvw; rw [q] at z9; have := z9.symm.trans hY; first | cases this | simp at this) fvw
      replace hY : hv11 y = some (.inr (8, [.ref ms, .ref mb, .ref (ra 28), .int gr, .int (nI 1), .int ca, .int mv, .ref od, .ref pt, .int ct, .int fau, .ref fi, .ref re, .int cs, .ref rc, .ref rs, .ref so, .ref ot, .ref cn, .ref la, .int ce, .ref ro, .int rn])) := by rw [ehv11]; exact qs_self
      clear ehv11
      replace fr := fun b o hb n1 n2 => khv11 b o n1 (fr b o hb n1 n2)
      refine lv_if_eq (tgt := 73) hx hb dX8_take_28 (by decide) (fun c28 => ?_) (fun c28 => ?_)
      · replace c28 : 0 = 0 := (nI_eq (a := 0) (b := 0) (by omega) (by omega)).mp c28
        have eX : X = (1, S, (ms, mb, ra 28, od, pt, ro, gr, cd, ca, mv, ct, fau, rn), a, k) := by rw [← hX]; unfold xs_take; rw [if_pos (by simp [ebi])]
        obtain ⟨m8, f8⟩ := hM.fin0 hY0 (h' := hv11) ⟨hRw.1, hRw.2.1, hRw.2.2.1, faw, fkw, fvw⟩ fr
        obtain ⟨q8, r8⟩ := hQ.rowM (o' := oCd (ms, mb, ra 28, od, pt, ro, gr, cd, ca, mv, ct, fau, rn) 1) hY0 hY m8 f8 ⟨rfl, rfl, rfl, rfl, rfl, rfl⟩
        exact q_vret C hP hS ⟨rfl, A, by rw [eX]; exact q8, r8⟩ (by omega) dX8_take_73
      · replace c28 : ¬ 0 = 0 := fun zq => c28 ((nI_eq (a := 0) (b := 0) (by omega) (by omega)).mpr zq)
        exfalso; omega
    · replace c5 : ¬ 0 = 0 := fun zq => c5 ((nI_eq (a := 0) (b := 0) (by omega) (by omega)).mpr zq)
      exfalso; omega
