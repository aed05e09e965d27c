def xs_iterate (S : Nat → qSlot) (W : qWo) (p0 : Int32) (p1 : Int64) (p2 : Int32) (p3 : Int64) : Int32 × (Nat → qSlot) × qWo := if bSl p0 = false ∨ p2 < 0 ∨ 6 < p2.toNatClampNeg then (1, S, W) else (0, qU S p0.toNatClampNeg (6, [], W.2.1.1, 0), W.1, xCons W.2.1 p1 W.2.2.1, xCell W.2.2 1 0 p2.toNatClampNeg p3 p1)

set_option maxRecDepth 100000 in
set_option maxHeartbeats 4000000 in
theorem w_iterate (l : Launch) (D : va_G) (cy : Nat → ClassId) (N0 : Nat) (h : qH) (y ms mb mw od pt fi re rc rs so ot cn la ro : Nat) (gr cd ca mv ct fau cs ce rn : Int32) (ra rk rv : Nat → Nat) (S : Nat → qSlot) (pa : Nat → Nat) (A : Nat → Prop) (a : qWd) (k : qKd) (R : Nat → List Int64) (ad : Nat → Nat) (Rn : Nat) (Bd sl d dc : Nat) (dp : Nat → Nat) (F : qWo → Nat → Nat × qWo) (p0 : Int32) (p1 : Int64) (p2 : Int32) (p3 : Int64) (X : Int32 × (Nat → qSlot) × qWo) (hY : h y = some (.inr (8, [.ref ms, .ref mb, .ref mw, .int gr, .int cd, .int ca, .int mv, .ref od, .ref pt, .int ct, .int fau, .ref fi, .ref re, .int cs, .ref rc, .ref rs, .ref so, .ref ot, .ref cn, .ref la, .int ce, .ref ro, .int rn]))) (hQ : qRF cy h y A ra rk rv pa (ms, mb, mw, od, pt, ro, gr, cd, ca, mv, ct, fau, rn) a k S Rn R ad) (hI : ∀ i, i < 28 → qOk (S i).1 (S i).2.1) (hV : qWv Bd sl Rn dp ((ms, mb, mw, od, pt, ro, gr, cd, ca, mv, ct, fau, rn), a, k)) (hB : Bd ≤ 4000) (hF : qFS l D cy N0 y Bd Rn R ad F d) (hG : qFg Bd Rn F d) (hdc : dc < d) (hSt : ∀ i, i < 24 → (S i).1 = 6 → (S i).2.2.1 < a.1 ∧ dp (S i).2.2.1 ≤ dc) (hX : xs_iterate S ((ms, mb, mw, od, pt, ro, gr, cd, ca, mv, ct, fau, rn), a, k) p0 p1 p2 p3 = X) : qC l D cy N0 yX8_iterate cX8_iterate 8 none 4 160 (qP1 X.2.2.2.1 - qP1 a) (qP2 X.2.2.2.1 - qP2 a) [.ref y, .int p0, .long p1, .int p2, .long p3] h (fun v h' => v = none ∧ ∃ A', qRF cy h' y A' ra rk rv pa (oCd X.2.2.1 X.1) X.2.2.2.1 X.2.2.2.2 X.2.1 Rn R ad ∧ qFR h h' y od ra rk rv pa A A') (fun E h' => False) := by
  refine q_ofW (by decide) (by exact Nat.le_of_ble_eq_true rfl) ?_
  intro p e s m below meth c ls C hP hl
  have hx := C.1
  have hb := C.2.1
  have hS : va_S (qA N0) s.heap s.heap [] := va_S.rf
  have hl : lv_has ls 8 [(0, .ref y), (1, .int p0), (2, .long p1), (4, .int p2), (5, .long p3)] := hl
  have hM : qMR cy h ms mb mw ra rk rv S := hQ.2.2.1
  have hY0 := hY
  obtain ⟨hms, hmb, hmw, hmd, hrs, kdw, smw, dpw, rww, nw, fw, gw, hRw⟩ := id hM
  subst hmw
  have fr : ∀ b o, h b = some o → b ≠ y → qOf (ra 28) (rk 28) (rv 28) b → h b = some o := fun b o hb _ _ => hb
  have faw := hRw.2.2.2.1
  have fkw := hRw.2.2.2.2.1
  have fvw := hRw.2.2.2.2.2
  unfold qRb at faw
  unfold qJr at fkw fvw
  refine lv_aload_n hx hb dX8_iterate_0 rfl (lv_at hl 0 rfl) ?_
  refine lv_iload_n hx hb dX8_iterate_1 rfl (lv_at hl 1 rfl) ?_
  refine q_callS (rest := [.ref y]) C (c_X8_isSlot l D cy N0 h p0) kX8_isSlot g1246 g1247 hP hS (by first | decide | omega) hl.1 rfl (by simp [q_catrf, q_cati, q_catl, q_cata, q_catn]) (by first | decide | omega) dX8_iterate_2 (fun q ce E h' H1 locs1 hE => hE.elim) (fun v hh1 H locs hq hP hS => ?_)
  obtain ⟨rfl, ⟨rfl, sl9⟩ | ⟨rfl, sl9⟩⟩ := hq
  · obtain ⟨i, hi, rfl⟩ := sl9.of
    have ebi : bSl (nI i) = true := bSl_t sl9
    have eci : (nI i).toNatClampNeg = i := nI_clamp (by omega)
    refine lv_if_eq (tgt := 24) hx hb dX8_iterate_5 (by decide) (fun c5 => ?_) (fun c5 => ?_)
    · replace c5 : 1 = 0 := (nI_eq (a := 1) (b := 0) (by omega) (by omega)).mp c5
      exfalso; omega
    · replace c5 : ¬ 1 = 0 := fun zq => c5 ((nI_eq (a := 1) (b := 0) (by omega) (by omega)).mpr zq)
      refine lv_iload hx hb dX8_iterate_8 (lv_at hl 3 rfl) ?_
      refine lv_if_lt (tgt := 24) hx hb dX8_iterate_10 (by decide) (fun c10 => ?_) (fun c10 => ?_)
      · refine lv_iconst (v := nI 0) hx hb dX8_iterate_24 (by decide) ?_
        refine lv_iconst (v := nI 1) hx hb dX8_iterate_25 (by decide) ?_
        refine q_callV (rest := []) C (c_X8_good0 l D cy N0 h y ms mb (ra 28) od pt fi re rc rs so ot cn la ro gr cd ca mv ct fau cs ce rn (nI 1) hY) kX8_good g1249 g1251 rfl gp41 g4 hP hS hY (by first | decide | omega) hl.1 rfl (by decide) (by first | decide | omega) dX8_iterate_26 (fun q ce E h' H1 locs1 hE => hE.elim) (fun v hh2 H locs hq hP hS => ?_)
        obtain ⟨rfl, rfl⟩ := hq
        replace hP : qP D N0 (qs h y (.inr (8, [.ref ms, .ref mb, .ref (ra 28), .int gr, .int (nI 1), .int ca, .int mv, .ref od, .ref pt, .int ct, .int fau, .ref fi, .ref re, .int cs, .ref rc, .ref rs, .ref so, .ref ot, .ref cn, .ref la, .int ce, .ref ro, .int rn]))) H := hP
        obtain ⟨hv1, ehv1⟩ : ∃ z : qH, z = qs h y (.inr (8, [.ref ms, .ref mb, .ref (ra 28), .int gr, .int (nI 1), .int ca, .int mv, .ref od, .ref pt, .int ct, .int fau, .ref fi, .ref re, .int cs, .ref rc, .ref rs, .ref so, .ref ot, .ref cn, .ref la, .int ce, .ref ro, .int rn])) := ⟨_, rfl⟩
        rw [← ehv1] at hP
        have khv1 : ∀ b o, b ≠ y → h b = some o → hv1 b = some o := by rw [ehv1]; exact fun b o nb hb => (qs_ne nb).trans hb
        replace hms := khv1 _ _ (fun q => by subst q; have := hms.symm.trans hY; first | cases this | simp at this) hms
        replace hmb := khv1 _ _ (fun q => by subst q; have := hmb.symm.trans hY; first | cases this | simp at this) hmb
        replace faw := khv1 _ _ (fun q => by have z9 := faw; rw [q] at z9; have := z9.symm.trans hY; first | cases this | simp at this) faw
        replace fkw := khv1 _ _ (fun q => by have z9 := fkw; rw [q] at z9; have := z9.symm.trans hY; first | cases this | simp at this) fkw
        replace fvw := khv1 _ _ (fun q => by have z9 := fvw; rw [q] at z9; have := z9.symm.trans hY; first | cases this | simp at this) fvw
        replace hY : hv1 y = some (.inr (8, [.ref ms, .ref mb, .ref (ra 28), .int gr, .int (nI 1), .int ca, .int mv, .ref od, .ref pt, .int ct, .int fau, .ref fi, .ref re, .int cs, .ref rc, .ref rs, .ref so, .ref ot, .ref cn, .ref la, .int ce, .ref ro, .int rn])) := by rw [ehv1]; exact qs_self
        clear ehv1
        replace fr := fun b o hb n1 n2 => khv1 b o n1 (fr b o hb n1 n2)
        refine lv_if_ne (tgt := 33) hx hb dX8_iterate_29 (by decide) (fun c29 => ?_) (fun c29 => ?_)
        · replace c29 : ¬ 0 = 0 := fun zq => c29 ((nI_eq (a := 0) (b := 0) (by omega) (by omega)).mpr zq)
          exfalso; omega
        · replace c29 : 0 = 0 := (nI_eq (a := 0) (b := 0) (by omega) (by omega)).mp c29
          have eX : X = (1, S, (ms, mb, ra 28, od, pt, ro, gr, cd, ca, mv, ct, fau, rn), a, k) := by rw [← hX]; unfold xs_iterate; rw [if_pos (Or.inr (Or.inl c10))]
          obtain ⟨m8, f8⟩ := hM.fin0 hY0 (h' := hv1) ⟨hRw.1, hRw.2.1, hRw.2.2.1, faw, fkw, fvw⟩ fr
          obtain ⟨q8, r8⟩ := hQ.rowM (o' := oCd (ms, mb, ra 28, od, pt, ro, gr, cd, ca, mv, ct, fau, rn) 1) hY0 hY m8 f8 ⟨rfl, rfl, rfl, rfl, rfl, rfl⟩
          exact q_vret C hP hS ⟨rfl, A, by rw [eX]; exact q8, r8⟩ (by omega) dX8_iterate_32
      · obtain ⟨q, hq9, rfl⟩ := nI_of c10
        have ecq : (nI q).toNatClampNeg = q := nI_clamp hq9
        refine lv_iload hx hb dX8_iterate_13 (lv_at hl 3 rfl) ?_
        refine lv_bipush (v := nI 6) hx hb dX8_iterate_15 (by decide) ?_
        refine lv_icmp_gt (tgt := 24) hx hb dX8_iterate_17 (by decide) (fun c17 => ?_) (fun c17 => ?_)
        · replace c17 : 6 < q := (nI_ltI (a := 6) (b := q) (by omega) (by omega)).mp c17
          refine lv_iconst (v := nI 0) hx hb dX8_iterate_24 (by decide) ?_
          refine lv_iconst (v := nI 1) hx hb dX8_iterate_25 (by decide) ?_
          refine q_callV (rest := []) C (c_X8_good0 l D cy N0 h y ms mb (ra 28) od pt fi re rc rs so ot cn la ro gr cd ca mv ct fau cs ce rn (nI 1) hY) kX8_good g1249 g1251 rfl gp41 g4 hP hS hY (by first | decide | omega) hl.1 rfl (by decide) (by first | decide | omega) dX8_iterate_26 (fun q ce E h' H1 locs1 hE => hE.elim) (fun v hh3 H locs hq hP hS => ?_)
          obtain ⟨rfl, rfl⟩ := hq
          replace hP : qP D N0 (qs h y (.inr (8, [.ref ms, .ref mb, .ref (ra 28), .int gr, .int (nI 1), .int ca, .int mv, .ref od, .ref pt, .int ct, .int fau, .ref fi, .ref re, .int cs, .ref rc, .ref rs, .ref so, .ref ot, .ref cn, .ref la, .int ce, .ref ro, .int rn]))) H := hP
          obtain ⟨hv2, ehv2⟩ : ∃ z : qH, z = qs h y (.inr (8, [.ref ms, .ref mb, .ref (ra 28), .int gr, .int (nI 1), .int ca, .int mv, .ref od, .ref pt, .int ct, .int fau, .ref fi, .ref re, .int cs, .ref rc, .ref rs, .ref so, .ref ot, .ref cn, .ref la, .int ce, .ref ro, .int rn])) := ⟨_, rfl⟩
          rw [← ehv2] at hP
          have khv2 : ∀ b o, b ≠ y → h b = some o → hv2 b = some o := by rw [ehv2]; exact fun b o nb hb => (qs_ne nb).trans hb
          replace hms := khv2 _ _ (fun q => by subst q; have := hms.symm.trans hY; first | cases this | simp at this) hms
          replace hmb := khv2 _ _ (fun q => by subst q; have := hmb.symm.trans hY; first | cases this | simp at this) hmb
          replace faw := khv2 _ _ (fun q => by have z9 := faw; rw [q] at z9; have := z9.symm.trans hY; first | cases this | simp at this) faw
          replace fkw := khv2 _ _ (fun q => by have z9 := fkw; rw [q] at z9; have := z9.symm.trans hY; first | cases this | simp at this) fkw
          replace fvw := khv2 _ _ (fun q => by have z9 := fvw; rw [q] at z9; have := z9.symm.trans hY; first | cases this | simp at this) fvw
          replace hY : hv2 y = some (.inr (8, [.ref ms, .ref mb, .ref (ra 28), .int gr, .int (nI 1), .int ca, .int mv, .ref od, .ref pt, .int ct, .int fau, .ref fi, .ref re, .int cs, .ref rc, .ref rs, .ref so, .ref ot, .ref cn, .ref la, .int ce, .ref ro, .int rn])) := by rw [ehv2]; exact qs_self
          clear ehv2
          replace fr := fun b o hb n1 n2 => khv2 b o n1 (fr b o hb n1 n2)
          refine lv_if_ne (tgt := 33) hx hb dX8_iterate_29 (by decide) (fun c29 => ?_) (fun c29 => ?_)
          · replace c29 : ¬ 0 = 0 := fun zq => c29 ((nI_eq (a := 0) (b := 0) (by omega) (by omega)).mpr zq)
            exfalso; omega
          · replace c29 : 0 = 0 := (nI_eq (a := 0) (b := 0) (by omega) (by omega)).mp c29
            have eX : X = (1, S, (ms, mb, ra 28, od, pt, ro, gr, cd, ca, mv, ct, fau, rn), a, k) := by rw [← hX]; unfold xs_iterate; rw [if_pos (Or.inr (Or.inr (by rw [ecq]; omega)))]
            obtain ⟨m8, f8⟩ := hM.fin0 hY0 (h' := hv2) ⟨hRw.1, hRw.2.1, hRw.2.2.1, faw, fkw, fvw⟩ fr
            obtain ⟨q8, r8⟩ := hQ.rowM (o' := oCd (ms, mb, ra 28, od, pt, ro, gr, cd, ca, mv, ct, fau, rn) 1) hY0 hY m8 f8 ⟨rfl, rfl, rfl, rfl, rfl, rfl⟩
            exact q_vret C hP hS ⟨rfl, A, by rw [eX]; exact q8, r8⟩ (by omega) dX8_iterate_32
        · replace c17 : ¬ 6 < q := fun zq => c17 ((nI_ltI (a := 6) (b := q) (by omega) (by omega)).mpr zq)
          refine lv_iconst (v := nI 1) hx hb dX8_iterate_20 (by decide) ?_
          refine lv_goto (tgt := 25) hx hb dX8_iterate_21 (by decide) ?_
          refine lv_iconst (v := nI 1) hx hb dX8_iterate_25 (by decide) ?_
          refine q_callV (rest := []) C (c_X8_good1 l D cy N0 h y ms mb (ra 28) od pt fi re rc rs so ot cn la ro gr cd ca mv ct fau cs ce rn (nI 1) hY) kX8_good g1249 g1251 rfl gp41 g4 hP hS hY (by first | decide | omega) hl.1 rfl (by decide) (by first | decide | omega) dX8_iterate_26 (fun q ce E h' H1 locs1 hE => hE.elim) (fun v hh4 H locs hq hP hS => ?_)
          obtain ⟨rfl, rfl⟩ := hq
          replace hP : qP D N0 (qs h y (.inr (8, [.ref ms, .ref mb, .ref (ra 28), .int gr, .int 0, .int ca, .int mv, .ref od, .ref pt, .int ct, .int fau, .ref fi, .ref re, .int cs, .ref rc, .ref rs, .ref so, .ref ot, .ref cn, .ref la, .int ce, .ref ro, .int rn]))) H := hP
          obtain ⟨hv3, ehv3⟩ : ∃ z : qH, z = qs h y (.inr (8, [.ref ms, .ref mb, .ref (ra 28), .int gr, .int 0, .int ca, .int mv, .ref od, .ref pt, .int ct, .int fau, .ref fi, .ref re, .int cs, .ref rc, .ref rs, .ref so, .ref ot, .ref cn, .ref la, .int ce, .ref ro, .int rn])) := ⟨_, rfl⟩
          rw [← ehv3] at hP
          have khv3 : ∀ b o, b ≠ y → h b = some o → hv3 b = some o := by rw [ehv3]; exact fun b o nb hb => (qs_ne nb).trans hb
          replace hms := khv3 _ _ (fun q => by subst q; have := hms.symm.trans hY; first | cases this | simp at this) hms
          replace hmb := khv3 _ _ (fun q => by subst q; have := hmb.symm.trans hY; first | cases this | simp at this) hmb
          replace faw := khv3 _ _ (fun q => by have z9 := faw; rw [q] at z9; have := z9.symm.trans hY; first | cases this | simp at this) faw
          replace fkw := khv3 _ _ (fun q => by have z9 := fkw; rw [q] at z9; have := z9.symm.trans hY; first | cases this | simp at this) fkw
          replace fvw := khv3 _ _ (fun q => by have z9 := fvw; rw [q] at z9; have := z9.symm.trans hY; first | cases this | simp at this) fvw
          replace hY : hv3 y = some (.inr (8, [.ref ms, .ref mb, .ref (ra 28), .int gr, .int 0, .int ca, .int mv, .ref od, .ref pt, .int ct, .int fau, .ref fi, .ref re, .int cs, .ref rc, .ref rs, .ref so, .ref ot, .ref cn, .ref la, .int ce, .ref ro, .int rn])) := by rw [ehv3]; exact qs_self
          clear ehv3
          replace fr := fun b o hb n1 n2 => khv3 b o n1 (fr b o hb n1 n2)
          refine lv_if_ne (tgt := 33) hx hb dX8_iterate_29 (by decide) (fun c29 => ?_) (fun c29 => ?_)
          · replace c29 : ¬ 1 = 0 := fun zq => c29 ((nI_eq (a := 1) (b := 0) (by omega) (by omega)).mpr zq)
            refine lv_aload_n hx hb dX8_iterate_33 rfl (lv_at hl 0 rfl) ?_
            refine q_get C hP hY rfl inX8 0 (by decide) g1167 rfl dX8_iterate_34 ?_
            refine lv_iload_n hx hb dX8_iterate_37 rfl (lv_at hl 1 rfl) ?_
            refine q_aaldR C hP hms rfl (by omega) (by omega) rfl dX8_iterate_38 ?_
            obtain ⟨ni, rwi, Fi, Gi, hRi, hni, hLi, hKi⟩ := hrs i (by omega)
            have api := hRi.apart hRw (hmd.two (i := i) (j := 28) (by omega) (by omega) (by omega))
            replace hRi := hRi.keep2 (fun b o hb ho => fr b o ho (hRi.ney hY0 hb) (hb.elim (fun q => q ▸ api.1) (fun hb => hb.elim (fun q => q ▸ api.2.1) (fun q => q ▸ api.2.2))))
            have fai := hRi.2.2.2.1
            have fki := hRi.2.2.2.2.1
            have fvi := hRi.2.2.2.2.2
            unfold qRb at fai
            unfold qJr at fki fvi
            refine lv_astore (lv' := [(7, .ref (ra i)), (0, .ref y), (1, .int (nI i)), (2, .long p1), (4, .int (nI q)), (5, .long p3)]) hx hb dX8_iterate_39 hl (by decide) rfl (fun ls hl => ?_)
            replace fr := fun b o hb n1 n2 (n3 : qOf (ra i) (rk i) (rv i) b) => fr b o hb n1 n2
            refine lv_aload hx hb dX8_iterate_41 (lv_at hl 0 rfl) ?_
            refine lv_bipush (v := nI 6) hx hb dX8_iterate_43 (by decide) ?_
            refine q_put C hP hS fai rfl inX7 tyX7 tyX7_ok nmX7 2 (by decide) g1142 rfl rfl rfl (Nat.le_of_ble_eq_true rfl) dX8_iterate_45 (fun H locs hP hS => ?_)
            replace hP : qP D N0 (qs hv3 (ra i) (.inr (7, [.ref (rk i), .ref (rv i), .int (nI 6), .int (nI ni), .int (nI (S i).2.2.1), .int (nI (S i).2.2.2), .int rwi]))) H := hP
            obtain ⟨hv4, ehv4⟩ : ∃ z : qH, z = qs hv3 (ra i) (.inr (7, [.ref (rk i), .ref (rv i), .int (nI 6), .int (nI ni), .int (nI (S i).2.2.1), .int (nI (S i).2.2.2), .int rwi])) := ⟨_, rfl⟩
            rw [← ehv4] at hP
            have khv4 : ∀ b o, b ≠ (ra i) → hv3 b = some o → hv4 b = some o := by rw [ehv4]; exact fun b o nb hb => (qs_ne nb).trans hb
            replace hY := khv4 _ _ (fun q => by have z9 := hY; rw [q] at z9; have := z9.symm.trans fai; first | cases this | simp at this) hY
            replace hms := khv4 _ _ (fun q => by have z9 := hms; rw [q] at z9; have := z9.symm.trans fai; first | cases this | simp at this) hms
            replace hmb := khv4 _ _ (fun q => by have z9 := hmb; rw [q] at z9; have := z9.symm.trans fai; first | cases this | simp at this) hmb
            replace faw := khv4 _ _ (Ne.symm api.1.1) faw
            replace fkw := khv4 _ _ (Ne.symm api.1.2.1) fkw
            replace fvw := khv4 _ _ (Ne.symm api.1.2.2) fvw
            replace fki := khv4 _ _ (fun q => by have z9 := fki; rw [q] at z9; have := z9.symm.trans fai; first | cases this | simp at this) fki
            replace fvi := khv4 _ _ (fun q => by have z9 := fvi; rw [q] at z9; have := z9.symm.trans fai; first | cases this | simp at this) fvi
            replace fai : hv4 (ra i) = some (.inr (7, [.ref (rk i), .ref (rv i), .int (nI 6), .int (nI ni), .int (nI (S i).2.2.1), .int (nI (S i).2.2.2), .int rwi])) := by rw [ehv4]; exact qs_self
            clear ehv4
            replace fr := fun b o hb n1 n2 n3 => khv4 b o n3.1 (fr b o hb n1 n2 n3)
            refine lv_aload hx hb dX8_iterate_48 (lv_at hl 0 rfl) ?_
            refine lv_iconst (v := nI 0) hx hb dX8_iterate_50 (by decide) ?_
            refine q_put C hP hS fai rfl inX7 tyX7 tyX7_ok nmX7 3 (by decide) g1143 rfl rfl rfl (Nat.le_of_ble_eq_true rfl) dX8_iterate_51 (fun H locs hP hS => ?_)
            replace hP : qP D N0 (qs hv4 (ra i) (.inr (7, [.ref (rk i), .ref (rv i), .int (nI 6), .int (nI 0), .int (nI (S i).2.2.1), .int (nI (S i).2.2.2), .int rwi]))) H := hP
            obtain ⟨hv5, ehv5⟩ : ∃ z : qH, z = qs hv4 (ra i) (.inr (7, [.ref (rk i), .ref (rv i), .int (nI 6), .int (nI 0), .int (nI (S i).2.2.1), .int (nI (S i).2.2.2), .int rwi])) := ⟨_, rfl⟩
            rw [← ehv5] at hP
            have khv5 : ∀ b o, b ≠ (ra i) → hv4 b = some o → hv5 b = some o := by rw [ehv5]; exact fun b o nb hb => (qs_ne nb).trans hb
            replace hY := khv5 _ _ (fun q => by have z9 := hY; rw [q] at z9; have := z9.symm.trans fai; first | cases this | simp at this) hY
            replace hms := khv5 _ _ (fun q => by have z9 := hms; rw [q] at z9; have := z9.symm.trans fai; first | cases this | simp at this) hms
            replace hmb := khv5 _ _ (fun q => by have z9 := hmb; rw [q] at z9; have := z9.symm.trans fai; first | cases this | simp at this) hmb
            replace faw := khv5 _ _ (Ne.symm api.1.1) faw
            replace fkw := khv5 _ _ (Ne.symm api.1.2.1) fkw
            replace fvw := khv5 _ _ (Ne.symm api.1.2.2) fvw
            replace fki := khv5 _ _ (fun q => by have z9 := fki; rw [q] at z9; have := z9.symm.trans fai; first | cases this | simp at this) fki
            replace fvi := khv5 _ _ (fun q => by have z9 := fvi; rw [q] at z9; have := z9.symm.trans fai; first | cases this | simp at this) fvi
            replace fai : hv5 (ra i) = some (.inr (7, [.ref (rk i), .ref (rv i), .int (nI 6), .int (nI 0), .int (nI (S i).2.2.1), .int (nI (S i).2.2.2), .int rwi])) := by rw [ehv5]; exact qs_self
            clear ehv5
            replace fr := fun b o hb n1 n2 n3 => khv5 b o n3.1 (fr b o hb n1 n2 n3)
            refine lv_aload hx hb dX8_iterate_54 (lv_at hl 0 rfl) ?_
            refine lv_iconst (v := nI 0) hx hb dX8_iterate_56 (by decide) ?_
            refine q_put C hP hS fai rfl inX7 tyX7 tyX7_ok nmX7 5 (by decide) g1145 rfl rfl rfl (Nat.le_of_ble_eq_true rfl) dX8_iterate_57 (fun H locs hP hS => ?_)
            replace hP : qP D N0 (qs hv5 (ra i) (.inr (7, [.ref (rk i), .ref (rv i), .int (nI 6), .int (nI 0), .int (nI (S i).2.2.1), .int (nI 0), .int rwi]))) H := hP
            obtain ⟨hv6, ehv6⟩ : ∃ z : qH, z = qs hv5 (ra i) (.inr (7, [.ref (rk i), .ref (rv i), .int (nI 6), .int (nI 0), .int (nI (S i).2.2.1), .int (nI 0), .int rwi])) := ⟨_, rfl⟩
            rw [← ehv6] at hP
            have khv6 : ∀ b o, b ≠ (ra i) → hv5 b = some o → hv6 b = some o := by rw [ehv6]; exact fun b o nb hb => (qs_ne nb).trans hb
            replace hY := khv6 _ _ (fun q => by have z9 := hY; rw [q] at z9; have := z9.symm.trans fai; first | cases this | simp at this) hY
            replace hms := khv6 _ _ (fun q => by have z9 := hms; rw [q] at z9; have := z9.symm.trans fai; first | cases this | simp at this) hms
            replace hmb := khv6 _ _ (fun q => by have z9 := hmb; rw [q] at z9; have := z9.symm.trans fai; first | cases this | simp at this) hmb
            replace faw := khv6 _ _ (Ne.symm api.1.1) faw
            replace fkw := khv6 _ _ (Ne.symm api.1.2.1) fkw
            replace fvw := khv6 _ _ (Ne.symm api.1.2.2) fvw
            replace fki := khv6 _ _ (fun q => by have z9 := fki; rw [q] at z9; have := z9.symm.trans fai; first | cases this | simp at this) fki
            replace fvi := khv6 _ _ (fun q => by have z9 := fvi; rw [q] at z9; have := z9.symm.trans fai; first | cases this | simp at this) fvi
            replace fai : hv6 (ra i) = some (.inr (7, [.ref (rk i), .ref (rv i), .int (nI 6), .int (nI 0), .int (nI (S i).2.2.1), .int (nI 0), .int rwi])) := by rw [ehv6]; exact qs_self
            clear ehv6
            replace fr := fun b o hb n1 n2 n3 => khv6 b o n3.1 (fr b o hb n1 n2 n3)
            refine lv_aload hx hb dX8_iterate_60 (lv_at hl 0 rfl) ?_
            refine lv_iconst (v := -1) hx hb dX8_iterate_62 (by decide) ?_
            refine q_put C hP hS fai rfl inX7 tyX7 tyX7_ok nmX7 6 (by decide) g1147 rfl rfl rfl (Nat.le_of_ble_eq_true rfl) dX8_iterate_63 (fun H locs hP hS => ?_)
            replace hP : qP D N0 (qs hv6 (ra i) (.inr (7, [.ref (rk i), .ref (rv i), .int (nI 6), .int (nI 0), .int (nI (S i).2.2.1), .int (nI 0), .int (-1)]))) H := hP
            obtain ⟨hv7, ehv7⟩ : ∃ z : qH, z = qs hv6 (ra i) (.inr (7, [.ref (rk i), .ref (rv i), .int (nI 6), .int (nI 0), .int (nI (S i).2.2.1), .int (nI 0), .int (-1)])) := ⟨_, rfl⟩
            rw [← ehv7] at hP
            have khv7 : ∀ b o, b ≠ (ra i) → hv6 b = some o → hv7 b = some o := by rw [ehv7]; exact fun b o nb hb => (qs_ne nb).trans hb
            replace hY := khv7 _ _ (fun q => by have z9 := hY; rw [q] at z9; have := z9.symm.trans fai; first | cases this | simp at this) hY
            replace hms := khv7 _ _ (fun q => by have z9 := hms; rw [q] at z9; have := z9.symm.trans fai; first | cases this | simp at this) hms
            replace hmb := khv7 _ _ (fun q => by have z9 := hmb; rw [q] at z9; have := z9.symm.trans fai; first | cases this | simp at this) hmb
            replace faw := khv7 _ _ (Ne.symm api.1.1) faw
            replace fkw := khv7 _ _ (Ne.symm api.1.2.1) fkw
            replace fvw := khv7 _ _ (Ne.symm api.1.2.2) fvw
            replace fki := khv7 _ _ (fun q => by have z9 := fki; rw [q] at z9; have := z9.symm.trans fai; first | cases this | simp at this) fki
            replace fvi := khv7 _ _ (fun q => by have z9 := fvi; rw [q] at z9; have := z9.symm.trans fai; first | cases this | simp at this) fvi
            replace fai : hv7 (ra i) = some (.inr (7, [.ref (rk i), .ref (rv i), .int (nI 6), .int (nI 0), .int (nI (S i).2.2.1), .int (nI 0), .int (-1)])) := by rw [ehv7]; exact qs_self
            clear ehv7
            replace fr := fun b o hb n1 n2 n3 => khv7 b o n3.1 (fr b o hb n1 n2 n3)
            refine lv_aload hx hb dX8_iterate_66 (lv_at hl 0 rfl) ?_
            refine lv_aload_n hx hb dX8_iterate_68 rfl (lv_at hl 1 rfl) ?_
            refine lv_lload_n hx hb dX8_iterate_69 rfl (lv_at hl 3 rfl) ?_
            refine lv_aload_n hx hb dX8_iterate_70 rfl (lv_at hl 1 rfl) ?_
            refine lv_iconst (v := nI 1) hx hb dX8_iterate_71 (by decide) ?_
            refine lv_iconst (v := nI 0) hx hb dX8_iterate_72 (by decide) ?_
            refine lv_iload hx hb dX8_iterate_73 (lv_at hl 4 rfl) ?_
            refine lv_lload hx hb dX8_iterate_75 (lv_at hl 5 rfl) ?_
            refine lv_lload_n hx hb dX8_iterate_77 rfl (lv_at hl 3 rfl) ?_
            have hL8 := (hV.L hB).1
            have hLn := (hV.L hB).2
            have eX : X = (0, qU S i (6, [], a.1, 0), (ms, mb, ra 28, od, pt, ro, gr, cd, ca, mv, ct, fau, rn), xCons a p1 k.1, xCell k 1 0 q p3 p1) := by rw [← hX]; unfold xs_iterate; rw [if_neg (by rw [ebi, ecq]; exact fun z => z.elim (fun z => by cases z) (fun z => z.elim c10 (fun z => by omega))), eci, ecq]
            have eP1 : qP1 X.2.2.2.1 = qP1 (xCons a p1 k.1) := by rw [eX]
            have eP2 : qP2 X.2.2.2.1 = qP2 (xCons a p1 k.1) := by rw [eX]
            have hpc := qPush1 hV (x := p1) (r := k.1)
            obtain ⟨m8, f8⟩ := hM.fin hY0 (i := i) (by omega) (s := (6, [], (S i).2.2.1, 0)) ⟨0, _, _, _, ⟨hRi.1, hRi.2.1, hRi.2.2.1, fai, fki, fvi⟩, by omega, rfl, Or.inl rfl⟩ ⟨hRw.1, hRw.2.1, hRw.2.2.1, faw, fkw, fvw⟩ fr
            obtain ⟨q8, r8⟩ := hQ.rowM (o' := (oCd (ms, mb, ra 28, od, pt, ro, gr, cd, ca, mv, ct, fau, rn) 0)) hY0 hY m8 f8 ⟨rfl, rfl, rfl, rfl, rfl, rfl⟩
            refine q_callV (rest := [.long p1, .ref y, .ref (ra i)]) C (w_cell l D cy N0 hv7 y A (oCd (ms, mb, ra 28, od, pt, ro, gr, cd, ca, mv, ct, fau, rn) 0) a k 1 0 q p3 p1 q8.1 hL8.2) kX8_cell g1305 g1307 rfl gp47 g4 hP hS hY (by first | decide | omega) hl.1 rfl (by simp [q_catrf, q_cati, q_catl, q_cata, q_catn]) (by first | decide | omega) dX8_iterate_78 (fun q ce E h' H1 locs1 hE => hE.elim) (fun v hh5 H locs hq hP hS => ?_)
            obtain ⟨rfl, A1, hS1, hF1⟩ := hq
            have nA1 : ¬ A1 y := fun z => (hF1.2.2 y z).elim q8.2.1 (fun q => q _ hY)
            have ap9 := q8.2.2.2.2.2
            replace hms := hF1.1 _ _ hms (qne_arr (cy := cy) hms hY) ap9.two.1
            replace hmb := hF1.1 _ _ hmb (qne_arr (cy := cy) hmb hY) ap9.two.2
            replace faw := hF1.1 _ _ faw (fun z => by rw [z] at faw; have := faw.symm.trans hY; cases this) (ap9.row (i := 28) (by omega)).1
            replace fkw := hF1.1 _ _ fkw (qne_arr (cy := cy) fkw hY) (ap9.row (i := 28) (by omega)).2.1
            replace fvw := hF1.1 _ _ fvw (qne_arr (cy := cy) fvw hY) (ap9.row (i := 28) (by omega)).2.2
            replace fai := hF1.1 _ _ fai (fun z => by rw [z] at fai; have := fai.symm.trans hY; cases this) (ap9.row (i := i) (by omega)).1
            replace fki := hF1.1 _ _ fki (qne_arr (cy := cy) fki hY) (ap9.row (i := i) (by omega)).2.1
            replace fvi := hF1.1 _ _ fvi (qne_arr (cy := cy) fvi hY) (ap9.row (i := i) (by omega)).2.2
            obtain ⟨q7a, r7a⟩ := q8.str hS1 hF1 nA1 ⟨rfl, rfl, rfl, rfl, rfl, rfl⟩
            have rta := r8.tr q8 rfl r7a
            clear hY
            obtain ⟨fja, rja, rcja, rsja, soja, otja, cnja, laja, hY⟩ := q7a.1.yo2
            unfold qYo at hY
            refine q_callV (rest := [.ref (ra i)]) C (w_cons l D cy N0 hh5 y A1 (oCd (ms, mb, ra 28, od, pt, ro, gr, cd, ca, mv, ct, fau, rn) 0) a (xCell k 1 0 q p3 p1) p1 k.1 q7a.1 hL8.1) kX8_cons g1315 g1317 rfl gp48 g4 hP hS hY (by first | decide | omega) hl.1 rfl (by simp [q_catrf, q_cati, q_catl, q_cata, q_catn]) (by first | decide | omega) dX8_iterate_81 (fun q ce E h' H1 locs1 hE => hE.elim) (fun v hh6 H locs hq hP hS => ?_)
            obtain ⟨rfl, A2, hS2, hF2⟩ := hq
            have nA2 : ¬ A2 y := fun z => (hF2.2.2 y z).elim nA1 (fun q => q _ hY)
            have ap9 := q7a.2.2.2.2.2
            replace hms := hF2.1 _ _ hms (qne_arr (cy := cy) hms hY) ap9.two.1
            replace hmb := hF2.1 _ _ hmb (qne_arr (cy := cy) hmb hY) ap9.two.2
            replace faw := hF2.1 _ _ faw (fun z => by rw [z] at faw; have := faw.symm.trans hY; cases this) (ap9.row (i := 28) (by omega)).1
            replace fkw := hF2.1 _ _ fkw (qne_arr (cy := cy) fkw hY) (ap9.row (i := 28) (by omega)).2.1
            replace fvw := hF2.1 _ _ fvw (qne_arr (cy := cy) fvw hY) (ap9.row (i := 28) (by omega)).2.2
            replace fai := hF2.1 _ _ fai (fun z => by rw [z] at fai; have := fai.symm.trans hY; cases this) (ap9.row (i := i) (by omega)).1
            replace fki := hF2.1 _ _ fki (qne_arr (cy := cy) fki hY) (ap9.row (i := i) (by omega)).2.1
            replace fvi := hF2.1 _ _ fvi (qne_arr (cy := cy) fvi hY) (ap9.row (i := i) (by omega)).2.2
            obtain ⟨q7b, r7b⟩ := q7a.str hS2 hF2 nA2 ⟨rfl, rfl, rfl, rfl, rfl, rfl⟩
            have rtb := rta.tr q7a rfl r7b
            clear hY
            obtain ⟨fjb, rjb, rcjb, rsjb, sojb, otjb, cnjb, lajb, hY⟩ := q7b.1.yo2
            unfold qYo at hY
            have hY0 := hY
            have hM := q7b.2.2.1
            have hrs := hM.2.2.2.2.1
            replace hRw : qRw cy hh6 (ra 28) (rk 28) (rv 28) kdw (nI nw) smw dpw rww fw gw := ⟨hRw.1, hRw.2.1, hRw.2.2.1, faw, fkw, fvw⟩
            replace fr : ∀ b o, hh6 b = some o → b ≠ y → qOf (ra 28) (rk 28) (rv 28) b → hh6 b = some o := fun b o hb _ _ => hb
            replace fr : ∀ b o, hh6 b = some o → b ≠ y → qOf (ra 28) (rk 28) (rv 28) b → qOf (ra i) (rk i) (rv i) b → hh6 b = some o := fun b o hb _ _ _ => hb
            refine q_put C hP hS fai rfl inX7 tyX7 tyX7_ok nmX7 4 (by decide) g1144 rfl rfl rfl (Nat.le_of_ble_eq_true rfl) dX8_iterate_84 (fun H locs hP hS => ?_)
            replace hP : qP D N0 (qs hh6 (ra i) (.inr (7, [.ref (rk i), .ref (rv i), .int (nI 6), .int (nI 0), .int (nI a.1), .int (nI 0), .int (-1)]))) H := hP
            obtain ⟨hv8, ehv8⟩ : ∃ z : qH, z = qs hh6 (ra i) (.inr (7, [.ref (rk i), .ref (rv i), .int (nI 6), .int (nI 0), .int (nI a.1), .int (nI 0), .int (-1)])) := ⟨_, rfl⟩
            rw [← ehv8] at hP
            have khv8 : ∀ b o, b ≠ (ra i) → hh6 b = some o → hv8 b = some o := by rw [ehv8]; exact fun b o nb hb => (qs_ne nb).trans hb
            replace hY := khv8 _ _ (fun q => by have z9 := hY; rw [q] at z9; have := z9.symm.trans fai; first | cases this | simp at this) hY
            replace hms := khv8 _ _ (fun q => by have z9 := hms; rw [q] at z9; have := z9.symm.trans fai; first | cases this | simp at this) hms
            replace hmb := khv8 _ _ (fun q => by have z9 := hmb; rw [q] at z9; have := z9.symm.trans fai; first | cases this | simp at this) hmb
            replace faw := khv8 _ _ (Ne.symm api.1.1) faw
            replace fkw := khv8 _ _ (Ne.symm api.1.2.1) fkw
            replace fvw := khv8 _ _ (Ne.symm api.1.2.2) fvw
            replace fki := khv8 _ _ (fun q => by have z9 := fki; rw [q] at z9; have := z9.symm.trans fai; first | cases this | simp at this) fki
            replace fvi := khv8 _ _ (fun q => by have z9 := fvi; rw [q] at z9; have := z9.symm.trans fai; first | cases this | simp at this) fvi
            replace fai : hv8 (ra i) = some (.inr (7, [.ref (rk i), .ref (rv i), .int (nI 6), .int (nI 0), .int (nI a.1), .int (nI 0), .int (-1)])) := by rw [ehv8]; exact qs_self
            clear ehv8
            replace fr := fun b o hb n1 n2 n3 => khv8 b o n3.1 (fr b o hb n1 n2 n3)
            obtain ⟨m9, f9⟩ := hM.fin hY0 (i := i) (by omega) (s := (6, [], a.1, 0)) ⟨0, _, _, _, ⟨hRi.1, hRi.2.1, hRi.2.2.1, fai, fki, fvi⟩, by omega, rfl, Or.inl rfl⟩ ⟨hRw.1, hRw.2.1, hRw.2.2.1, faw, fkw, fvw⟩ fr
            rw [qU_qU9] at m9
            obtain ⟨q9, r9⟩ := q7b.rowM (o' := (oCd (ms, mb, ra 28, od, pt, ro, gr, cd, ca, mv, ct, fau, rn) 0)) hY0 hY m9 f9 ⟨rfl, rfl, rfl, rfl, rfl, rfl⟩
            exact q_vret C hP hS ⟨rfl, A2, by rw [eX]; exact q9, rtb.tr q7b rfl r9⟩ (by omega) dX8_iterate_87
          · replace c29 : 1 = 0 := (nI_eq (a := 1) (b := 0) (by omega) (by omega)).mp c29
            exfalso; omega
  · have ebi : bSl p0 = false := bSl_f sl9
    refine lv_if_eq (tgt := 24) hx hb dX8_iterate_5 (by decide) (fun c5 => ?_) (fun c5 => ?_)
    · replace c5 : 0 = 0 := (nI_eq (a := 0) (b := 0) (by omega) (by omega)).mp c5
      refine lv_iconst (v := nI 0) hx hb dX8_iterate_24 (by decide) ?_
      refine lv_iconst (v := nI 1) hx hb dX8_iterate_25 (by decide) ?_
      refine q_callV (rest := []) C (c_X8_good0 l D cy N0 h y ms mb (ra 28) od pt fi re rc rs so ot cn la ro gr cd ca mv ct fau cs ce rn (nI 1) hY) kX8_good g1249 g1251 rfl gp41 g4 hP hS hY (by first | decide | omega) hl.1 rfl (by decide) (by first | decide | omega) dX8_iterate_26 (fun q ce E h' H1 locs1 hE => hE.elim) (fun v hh7 H locs hq hP hS => ?_)
      obtain ⟨rfl, rfl⟩ := hq
      replace hP : qP D N0 (qs h y (.inr (8, [.ref ms, .ref mb, .ref (ra 28), .int gr, .int (nI 1), .int ca, .int mv, .ref od, .ref pt, .int ct, .int fau, .ref fi, .ref re, .int cs, .ref rc, .ref rs, .ref so, .ref ot, .ref cn, .ref la, .int ce, .ref ro, .int rn]))) H := hP
      obtain ⟨hv9, ehv9⟩ : ∃ z : qH, z = qs h y (.inr (8, [.ref ms, .ref mb, .ref (ra 28), .int gr, .int (nI 1), .int ca, .int mv, .ref od, .ref pt, .int ct, .int fau, .ref fi, .ref re, .int cs, .ref rc, .ref rs, .ref so, .ref ot, .ref cn, .ref la, .int ce, .ref ro, .int rn])) := ⟨_, rfl⟩
      rw [← ehv9] at hP
      have khv9 : ∀ b o, b ≠ y → h b = some o → hv9 b = some o := by rw [ehv9]; exact fun b o nb hb => (qs_ne nb).trans hb
      replace hms := khv9 _ _ (fun q => by subst q; have := hms.symm.trans hY; first | cases this | simp at this) hms
      replace hmb := khv9 _ _ (fun q => by subst q; have := hmb.symm.trans hY; first | cases this | simp at this) hmb
      replace faw := khv9 _ _ (fun q => by have z9 := faw; rw [q] at z9; have := z9.symm.trans hY; first | cases this | simp at this) faw
      replace fkw := khv9 _ _ (fun q => by have z9 := fkw; rw [q] at z9; have := z9.symm.trans hY; first | cases this | simp at this) fkw
      replace fvw := khv9 _ _ (fun q => by have z9 := fvw; rw [q] at z9; have := z9.symm.trans hY; first | cases this | simp at this) fvw
      replace hY : hv9 y = some (.inr (8, [.ref ms, .ref mb, .ref (ra 28), .int gr, .int (nI 1), .int ca, .int mv, .ref od, .ref pt, .int ct, .int fau, .ref fi, .ref re, .int cs, .ref rc, .ref rs, .ref so, .ref ot, .ref cn, .ref la, .int ce, .ref ro, .int rn])) := by rw [ehv9]; exact qs_self
      clear ehv9
      replace fr := fun b o hb n1 n2 => khv9 b o n1 (fr b o hb n1 n2)
      refine lv_if_ne (tgt := 33) hx hb dX8_iterate_29 (by decide) (fun c29 => ?_) (fun c29 => ?_)
      · replace c29 : ¬ 0 = 0 := fun zq => c29 ((nI_eq (a := 0) (b := 0) (by omega) (by omega)).mpr zq)
        exfalso; omega
      · replace c29 : 0 = 0 := (nI_eq (a := 0) (b := 0) (by omega) (by omega)).mp c29
        have eX : X = (1, S, (ms, mb, ra 28, od, pt, ro, gr, cd, ca, mv, ct, fau, rn), a, k) := by rw [← hX]; unfold xs_iterate; rw [if_pos (Or.inl ebi)]
        obtain ⟨m8, f8⟩ := hM.fin0 hY0 (h' := hv9) ⟨hRw.1, hRw.2.1, hRw.2.2.1, faw, fkw, fvw⟩ fr
        obtain ⟨q8, r8⟩ := hQ.rowM (o' := oCd (ms, mb, ra 28, od, pt, ro, gr, cd, ca, mv, ct, fau, rn) 1) hY0 hY m8 f8 ⟨rfl, rfl, rfl, rfl, rfl, rfl⟩
        exact q_vret C hP hS ⟨rfl, A, by rw [eX]; exact q8, r8⟩ (by omega) dX8_iterate_32
    · replace c5 : ¬ 0 = 0 := fun zq => c5 ((nI_eq (a := 0) (b := 0) (by omega) (by omega)).mpr zq)
      exfalso; omega
