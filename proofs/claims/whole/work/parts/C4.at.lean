def oCt (o : qYf) (x : Int32) : qYf := (o.1, o.2.1, o.2.2.1, o.2.2.2.1, o.2.2.2.2.1, o.2.2.2.2.2.1, o.2.2.2.2.2.2.1, o.2.2.2.2.2.2.2.1, o.2.2.2.2.2.2.2.2.1, o.2.2.2.2.2.2.2.2.2.1, x, o.2.2.2.2.2.2.2.2.2.2.2.1, o.2.2.2.2.2.2.2.2.2.2.2.2)
theorem qFR.tr {cy : Nat → ClassId} {h h1 h2 : qH} {y Rn : Nat} {A A1 A2 : Nat → Prop} {ra rk rv pa : Nat → Nat} {o : qYf} {a : qWd} {k : qKd} {S : Nat → qSlot} {R : Nat → List Int64} {ad : Nat → Nat} {od : Nat} (f : qFR h h1 y od ra rk rv pa A A1) (q : qRF cy h1 y A1 ra rk rv pa o a k S Rn R ad) (eo : o.2.2.2.1 = od) (g : qFR h1 h2 y od ra rk rv pa A1 A2) : qFR h h2 y od ra rk rv pa A A2 := by
  subst eo
  obtain ⟨f1, f2, f3⟩ := f
  obtain ⟨g1, g2, g3⟩ := g
  obtain ⟨q1, q2, q3, q4, q5, q6⟩ := q
  obtain ⟨fs, hy⟩ := q1.yo
  obtain ⟨p1, ⟨O, p2⟩, ⟨Q, p3⟩, -, -⟩ := q4
  refine ⟨fun b x hb n1 n2 n3 n4 n5 => g1 b x (f1 b x hb n1 n2 n3 n4 n5) n1 n2 n3 n4 (fun z => ?_), fun b z => g2 b (f2 b z), fun b z => ?_⟩
  · rcases f3 b z with w | w
    · exact n5 w
    · exact w x hb
  · rcases g3 b z with w | w
    · exact f3 b w
    · by_cases c : A b
      · exact Or.inl c
      · refine Or.inr (fun x hx => ?_)
        have c1 : b ≠ y := fun e => w _ (e ▸ hy)
        have c2 : ∀ i, i < 29 → qOf (ra i) (rk i) (rv i) b := fun i hi => by
          obtain ⟨_, _, _, _, _, _, _, -, -, -, r4, r5, r6⟩ := q3.rowAt hi
          exact ⟨fun e => w _ (e ▸ r4), fun e => w _ (e ▸ r5), fun e => w _ (e ▸ r6)⟩
        exact w x (f1 b x hx c1 c2 (fun e => w _ (e ▸ p2)) (fun d hd e => w _ (e ▸ p3 d hd)) c)
def xs_at (F : qWo → Nat → Nat × qWo) (S : Nat → qSlot) (W : qWo) (p0 p1 : Int32) : Int32 × Int64 × qWo := if bSl p0 = false ∨ p1 < 0 then (1, 0, W) else if bHo (S p0.toNatClampNeg).1 79 = false then (2, 0, W) else
  if (S p0.toNatClampNeg).1 = 6 then (xStC (xWalk F p1.toNatClampNeg (oFa (oCd W.1 0) 0, W.2) (S p0.toNatClampNeg).2.2.1), xStV (xWalk F p1.toNatClampNeg (oFa (oCd W.1 0) 0, W.2) (S p0.toNatClampNeg).2.2.1), (xWalk F p1.toNatClampNeg (oFa (oCd W.1 0) 0, W.2) (S p0.toNatClampNeg).2.2.1).2) else
  if ¬ p1.toNatClampNeg < (S p0.toNatClampNeg).2.1.length then (3, 0, W) else
  (0, (if (S p0.toNatClampNeg).1 = 1 ∨ (S p0.toNatClampNeg).1 = 2 then ((thT (qMk W.1.2.2.2.2.2.2.1) 7 (S p0.toNatClampNeg).2.1).getD p1.toNatClampNeg (0, 0)).1 else ((S p0.toNatClampNeg).2.1.getD p1.toNatClampNeg (0, 0)).1), W)
theorem dX8_at_41 : decode cX8_at 41 = .ok (.aload_n 0, 1) := by decide +kernel
theorem dX8_at_42 : decode cX8_at 42 = .ok (.getfield 9, 3) := by decide +kernel
theorem dX8_at_45 : decode cX8_at 45 = .ok (.iload_n 1, 1) := by decide +kernel
theorem dX8_at_46 : decode cX8_at 46 = .ok (.aaload, 1) := by decide +kernel
theorem dX8_at_47 : decode cX8_at 47 = .ok (.astore_n 3, 1) := by decide +kernel
theorem dX8_at_48 : decode cX8_at 48 = .ok (.aload_n 3, 1) := by decide +kernel
theorem dX8_at_49 : decode cX8_at 49 = .ok (.getfield 75, 3) := by decide +kernel
theorem dX8_at_52 : decode cX8_at 52 = .ok (.bipush 6, 2) := by decide +kernel
theorem dX8_at_54 : decode cX8_at 54 = .ok (.if_icmp .ne 13, 3) := by decide +kernel
theorem dX8_at_57 : decode cX8_at 57 = .ok (.aload_n 0, 1) := by decide +kernel
theorem dX8_at_58 : decode cX8_at 58 = .ok (.aload_n 3, 1) := by decide +kernel
theorem dX8_at_59 : decode cX8_at 59 = .ok (.getfield 81, 3) := by decide +kernel
theorem dX8_at_62 : decode cX8_at 62 = .ok (.iload_n 2, 1) := by decide +kernel
theorem dX8_at_63 : decode cX8_at 63 = .ok (.invokevirtual 147, 3) := by decide +kernel
theorem dX8_at_66 : decode cX8_at 66 = .ok (.lreturn, 1) := by decide +kernel
theorem dX8_at_67 : decode cX8_at 67 = .ok (.aload_n 0, 1) := by decide +kernel
theorem dX8_at_68 : decode cX8_at 68 = .ok (.iload_n 2, 1) := by decide +kernel
theorem dX8_at_69 : decode cX8_at 69 = .ok (.aload_n 3, 1) := by decide +kernel
theorem dX8_at_70 : decode cX8_at 70 = .ok (.getfield 78, 3) := by decide +kernel
theorem dX8_at_73 : decode cX8_at 73 = .ok (.if_icmp .ge 7, 3) := by decide +kernel
theorem dX8_at_76 : decode cX8_at 76 = .ok (.iconst 1, 1) := by decide +kernel
theorem dX8_at_77 : decode cX8_at 77 = .ok (.goto 4, 3) := by decide +kernel
theorem dX8_at_80 : decode cX8_at 80 = .ok (.iconst 0, 1) := by decide +kernel
theorem dX8_at_81 : decode cX8_at 81 = .ok (.iconst 3, 1) := by decide +kernel
theorem dX8_at_82 : decode cX8_at 82 = .ok (.invokevirtual 100, 3) := by decide +kernel
theorem dX8_at_85 : decode cX8_at 85 = .ok (.ifCond .ne 5, 3) := by decide +kernel
theorem dX8_at_88 : decode cX8_at 88 = .ok (.lconst 0, 1) := by decide +kernel
theorem dX8_at_89 : decode cX8_at 89 = .ok (.lreturn, 1) := by decide +kernel
theorem dX8_at_90 : decode cX8_at 90 = .ok (.aload_n 3, 1) := by decide +kernel
theorem dX8_at_91 : decode cX8_at 91 = .ok (.getfield 75, 3) := by decide +kernel
theorem dX8_at_94 : decode cX8_at 94 = .ok (.iconst 1, 1) := by decide +kernel
theorem dX8_at_95 : decode cX8_at 95 = .ok (.if_icmp .eq 11, 3) := by decide +kernel
theorem dX8_at_98 : decode cX8_at 98 = .ok (.aload_n 3, 1) := by decide +kernel
theorem dX8_at_99 : decode cX8_at 99 = .ok (.getfield 75, 3) := by decide +kernel
theorem dX8_at_102 : decode cX8_at 102 = .ok (.iconst 2, 1) := by decide +kernel
theorem dX8_at_103 : decode cX8_at 103 = .ok (.if_icmp .ne 20, 3) := by decide +kernel
theorem dX8_at_106 : decode cX8_at 106 = .ok (.aload_n 0, 1) := by decide +kernel
theorem dX8_at_107 : decode cX8_at 107 = .ok (.aload_n 3, 1) := by decide +kernel
theorem dX8_at_108 : decode cX8_at 108 = .ok (.invokevirtual 151, 3) := by decide +kernel
theorem dX8_at_111 : decode cX8_at 111 = .ok (.aload_n 3, 1) := by decide +kernel
theorem dX8_at_112 : decode cX8_at 112 = .ok (.getfield 90, 3) := by decide +kernel
theorem dX8_at_115 : decode cX8_at 115 = .ok (.aload_n 0, 1) := by decide +kernel
theorem dX8_at_116 : decode cX8_at 116 = .ok (.getfield 23, 3) := by decide +kernel
theorem dX8_at_119 : decode cX8_at 119 = .ok (.iload_n 2, 1) := by decide +kernel
theorem dX8_at_120 : decode cX8_at 120 = .ok (.iaload, 1) := by decide +kernel
theorem dX8_at_121 : decode cX8_at 121 = .ok (.laload, 1) := by decide +kernel
theorem dX8_at_122 : decode cX8_at 122 = .ok (.lreturn, 1) := by decide +kernel
theorem dX8_at_123 : decode cX8_at 123 = .ok (.aload_n 3, 1) := by decide +kernel
theorem dX8_at_124 : decode cX8_at 124 = .ok (.getfield 90, 3) := by decide +kernel
theorem dX8_at_127 : decode cX8_at 127 = .ok (.iload_n 2, 1) := by decide +kernel
theorem dX8_at_128 : decode cX8_at 128 = .ok (.laload, 1) := by decide +kernel
theorem dX8_at_129 : decode cX8_at 129 = .ok (.lreturn, 1) := by decide +kernel
set_option maxRecDepth 100000 in
set_option maxHeartbeats 4000000 in
theorem w_at (l : Launch) (D : va_G) (cy : Nat → ClassId) (N0 : Nat) (h : qH) (y ms mb mw od pt fi re rc rs so ot cn la ro : Nat) (gr cd ca mv ct fau cs ce rn : Int32) (ra rk rv : Nat → Nat) (S : Nat → qSlot) (pa : Nat → Nat) (A : Nat → Prop) (a : qWd) (k : qKd) (R : Nat → List Int64) (ad : Nat → Nat) (Rn : Nat) (Bd sl d dc : Nat) (dp : Nat → Nat) (F : qWo → Nat → Nat × qWo) (p0 p1 : Int32) (X : Int32 × Int64 × qWo) (hY : h y = some (.inr (8, [.ref ms, .ref mb, .ref mw, .int gr, .int cd, .int ca, .int mv, .ref od, .ref pt, .int ct, .int fau, .ref fi, .ref re, .int cs, .ref rc, .ref rs, .ref so, .ref ot, .ref cn, .ref la, .int ce, .ref ro, .int rn]))) (hQ : qRF cy h y A ra rk rv pa (ms, mb, mw, od, pt, ro, gr, cd, ca, mv, ct, fau, rn) a k S Rn R ad) (hI : ∀ i, i < 28 → qOk (S i).1 (S i).2.1) (hV : qWv Bd sl Rn dp ((ms, mb, mw, od, pt, ro, gr, cd, ca, mv, ct, fau, rn), a, k)) (hB : Bd ≤ 4000) (hF : qFS l D cy N0 y Bd Rn R ad F d) (hG : qFg Bd Rn F d) (hdc : dc < d) (hSt : ∀ i, i < 24 → (S i).1 = 6 → (S i).2.2.1 < a.1 ∧ dp (S i).2.2.1 ≤ dc) (hX : xs_at F S ((ms, mb, mw, od, pt, ro, gr, cd, ca, mv, ct, fau, rn), a, k) p0 p1 = X) : qC l D cy N0 yX8_at cX8_at 4 (some .long) (4 * d + 20) (200 * d + 700) (qP1 X.2.2.2.1 - qP1 a) (qP2 X.2.2.2.1 - qP2 a) [.ref y, .int p0, .int p1] h (fun v h' => v = some (.long X.2.1) ∧ ∃ A' ct', qRF cy h' y A' ra rk rv pa (oCt (oCd X.2.2.1 X.1) ct') X.2.2.2.1 X.2.2.2.2 S Rn R ad ∧ qFR h h' y od ra rk rv pa A A') (fun E h' => False) := by
  refine q_ofW (by decide) (by exact Nat.le_of_ble_eq_true rfl) ?_
  intro p e s m below meth c ls C hP hl
  have hx := C.1
  have hb := C.2.1
  have hS : va_S (qA N0) s.heap s.heap [] := va_S.rf
  have hl : lv_has ls 4 [(0, .ref y), (1, .int p0), (2, .int p1)] := hl
  have hM : qMR cy h ms mb mw ra rk rv S := hQ.2.2.1
  have hY0 := hY
  obtain ⟨hms, hmb, hmw, hmd, hrs, kdw, smw, dpw, rww, nw, fw, gw, hRw⟩ := id hM
  subst hmw
  have fr : ∀ b o, h b = some o → b ≠ y → qOf (ra 28) (rk 28) (rv 28) b → h b = some o := fun b o hb _ _ => hb
  have faw := hRw.2.2.2.1
  have fkw := hRw.2.2.2.2.1
  have fvw := hRw.2.2.2.2.2
  unfold qRb at faw
  unfold qJr at fkw fvw
  refine lv_aload_n hx hb dX8_at_0 rfl (lv_at hl 0 rfl) ?_
  refine lv_iload_n hx hb dX8_at_1 rfl (lv_at hl 1 rfl) ?_
  refine q_callS (rest := [.ref y]) C (c_X8_isSlot l D cy N0 h p0) kX8_isSlot g1246 g1247 hP hS (by first | decide | omega) hl.1 rfl (by simp [q_catrf, q_cati, q_catl, q_cata, q_catn]) (by first | decide | omega) dX8_at_2 (fun q ce E h' H1 locs1 hE => hE.elim) (fun v hh1 H locs hq hP hS => ?_)
  obtain ⟨rfl, ⟨rfl, sl9⟩ | ⟨rfl, sl9⟩⟩ := hq
  · obtain ⟨i, hi, rfl⟩ := sl9.of
    have ebi : bSl (nI i) = true := bSl_t sl9
    have eci : (nI i).toNatClampNeg = i := nI_clamp (by omega)
    refine lv_if_eq (tgt := 16) hx hb dX8_at_5 (by decide) (fun c5 => ?_) (fun c5 => ?_)
    · replace c5 : 1 = 0 := (nI_eq (a := 1) (b := 0) (by omega) (by omega)).mp c5
      exfalso; omega
    · replace c5 : ¬ 1 = 0 := fun zq => c5 ((nI_eq (a := 1) (b := 0) (by omega) (by omega)).mpr zq)
      refine lv_iload_n hx hb dX8_at_8 rfl (lv_at hl 2 rfl) ?_
      refine lv_if_lt (tgt := 16) hx hb dX8_at_9 (by decide) (fun c9 => ?_) (fun c9 => ?_)
      · refine lv_iconst (v := nI 0) hx hb dX8_at_16 (by decide) ?_
        refine lv_iconst (v := nI 1) hx hb dX8_at_17 (by decide) ?_
        refine q_callV (rest := []) C (c_X8_good0 l D cy N0 h y ms mb (ra 28) od pt fi re rc rs so ot cn la ro gr cd ca mv ct fau cs ce rn (nI 1) hY) kX8_good g1249 g1251 rfl gp41 g4 hP hS hY (by first | decide | omega) hl.1 rfl (by decide) (by first | decide | omega) dX8_at_18 (fun q ce E h' H1 locs1 hE => hE.elim) (fun v hh2 H locs hq hP hS => ?_)
        obtain ⟨rfl, rfl⟩ := hq
        replace hP : qP D N0 (qs h y (.inr (8, [.ref ms, .ref mb, .ref (ra 28), .int gr, .int (nI 1), .int ca, .int mv, .ref od, .ref pt, .int ct, .int fau, .ref fi, .ref re, .int cs, .ref rc, .ref rs, .ref so, .ref ot, .ref cn, .ref la, .int ce, .ref ro, .int rn]))) H := hP
        obtain ⟨hv1, ehv1⟩ : ∃ z : qH, z = qs h y (.inr (8, [.ref ms, .ref mb, .ref (ra 28), .int gr, .int (nI 1), .int ca, .int mv, .ref od, .ref pt, .int ct, .int fau, .ref fi, .ref re, .int cs, .ref rc, .ref rs, .ref so, .ref ot, .ref cn, .ref la, .int ce, .ref ro, .int rn])) := ⟨_, rfl⟩
        rw [← ehv1] at hP
        have khv1 : ∀ b o, b ≠ y → h b = some o → hv1 b = some o := by rw [ehv1]; exact fun b o nb hb => (qs_ne nb).trans hb
        replace hms := khv1 _ _ (fun q => by subst q; have := hms.symm.trans hY; first | cases this | simp at this) hms
        replace hmb := khv1 _ _ (fun q => by subst q; have := hmb.symm.trans hY; first | cases this | simp at this) hmb
        replace faw := khv1 _ _ (fun q => by have z9 := faw; rw [q] at z9; have := z9.symm.trans hY; first | cases this | simp at this) faw
        replace fkw := khv1 _ _ (fun q => by have z9 := fkw; rw [q] at z9; have := z9.symm.trans hY; first | cases this | simp at this) fkw
        replace fvw := khv1 _ _ (fun q => by have z9 := fvw; rw [q] at z9; have := z9.symm.trans hY; first | cases this | simp at this) fvw
        replace hY : hv1 y = some (.inr (8, [.ref ms, .ref mb, .ref (ra 28), .int gr, .int (nI 1), .int ca, .int mv, .ref od, .ref pt, .int ct, .int fau, .ref fi, .ref re, .int cs, .ref rc, .ref rs, .ref so, .ref ot, .ref cn, .ref la, .int ce, .ref ro, .int rn])) := by rw [ehv1]; exact qs_self
        clear ehv1
        replace fr := fun b o hb n1 n2 => khv1 b o n1 (fr b o hb n1 n2)
        refine lv_if_eq (tgt := 39) hx hb dX8_at_21 (by decide) (fun c21 => ?_) (fun c21 => ?_)
        · replace c21 : 0 = 0 := (nI_eq (a := 0) (b := 0) (by omega) (by omega)).mp c21
          refine lv_lconst (v := 0) hx hb dX8_at_39 (by decide) ?_
          have eX : X = (1, 0, (ms, mb, ra 28, od, pt, ro, gr, cd, ca, mv, ct, fau, rn), a, k) := by rw [← hX]; unfold xs_at; rw [if_pos (Or.inr c9)]
          obtain ⟨m8, f8⟩ := hM.fin0 hY0 (h' := hv1) ⟨hRw.1, hRw.2.1, hRw.2.2.1, faw, fkw, fvw⟩ fr
          obtain ⟨q8, r8⟩ := hQ.rowM (o' := oCd (ms, mb, ra 28, od, pt, ro, gr, cd, ca, mv, ct, fau, rn) 1) hY0 hY m8 f8 ⟨rfl, rfl, rfl, rfl, rfl, rfl⟩
          exact q_lret C hP hS ⟨by rw [eX], A, ct, by rw [eX]; exact q8, r8⟩ (by omega) dX8_at_40
        · replace c21 : ¬ 0 = 0 := fun zq => c21 ((nI_eq (a := 0) (b := 0) (by omega) (by omega)).mpr zq)
          exfalso; omega
      · obtain ⟨q, hq9, rfl⟩ := nI_of c9
        have ecq : (nI q).toNatClampNeg = q := nI_clamp hq9
        refine lv_iconst (v := nI 1) hx hb dX8_at_12 (by decide) ?_
        refine lv_goto (tgt := 17) hx hb dX8_at_13 (by decide) ?_
        refine lv_iconst (v := nI 1) hx hb dX8_at_17 (by decide) ?_
        refine q_callV (rest := []) C (c_X8_good1 l D cy N0 h y ms mb (ra 28) od pt fi re rc rs so ot cn la ro gr cd ca mv ct fau cs ce rn (nI 1) hY) kX8_good g1249 g1251 rfl gp41 g4 hP hS hY (by first | decide | omega) hl.1 rfl (by decide) (by first | decide | omega) dX8_at_18 (fun q ce E h' H1 locs1 hE => hE.elim) (fun v hh3 H locs hq hP hS => ?_)
        obtain ⟨rfl, rfl⟩ := hq
        replace hP : qP D N0 (qs h y (.inr (8, [.ref ms, .ref mb, .ref (ra 28), .int gr, .int 0, .int ca, .int mv, .ref od, .ref pt, .int ct, .int fau, .ref fi, .ref re, .int cs, .ref rc, .ref rs, .ref so, .ref ot, .ref cn, .ref la, .int ce, .ref ro, .int rn]))) H := hP
        obtain ⟨hv2, ehv2⟩ : ∃ z : qH, z = qs h y (.inr (8, [.ref ms, .ref mb, .ref (ra 28), .int gr, .int 0, .int ca, .int mv, .ref od, .ref pt, .int ct, .int fau, .ref fi, .ref re, .int cs, .ref rc, .ref rs, .ref so, .ref ot, .ref cn, .ref la, .int ce, .ref ro, .int rn])) := ⟨_, rfl⟩
        rw [← ehv2] at hP
        have khv2 : ∀ b o, b ≠ y → h b = some o → hv2 b = some o := by rw [ehv2]; exact fun b o nb hb => (qs_ne nb).trans hb
        replace hms := khv2 _ _ (fun q => by subst q; have := hms.symm.trans hY; first | cases this | simp at this) hms
        replace hmb := khv2 _ _ (fun q => by subst q; have := hmb.symm.trans hY; first | cases this | simp at this) hmb
        replace faw := khv2 _ _ (fun q => by have z9 := faw; rw [q] at z9; have := z9.symm.trans hY; first | cases this | simp at this) faw
        replace fkw := khv2 _ _ (fun q => by have z9 := fkw; rw [q] at z9; have := z9.symm.trans hY; first | cases this | simp at this) fkw
        replace fvw := khv2 _ _ (fun q => by have z9 := fvw; rw [q] at z9; have := z9.symm.trans hY; first | cases this | simp at this) fvw
        replace hY : hv2 y = some (.inr (8, [.ref ms, .ref mb, .ref (ra 28), .int gr, .int 0, .int ca, .int mv, .ref od, .ref pt, .int ct, .int fau, .ref fi, .ref re, .int cs, .ref rc, .ref rs, .ref so, .ref ot, .ref cn, .ref la, .int ce, .ref ro, .int rn])) := by rw [ehv2]; exact qs_self
        clear ehv2
        replace fr := fun b o hb n1 n2 => khv2 b o n1 (fr b o hb n1 n2)
        refine lv_if_eq (tgt := 39) hx hb dX8_at_21 (by decide) (fun c21 => ?_) (fun c21 => ?_)
        · replace c21 : 1 = 0 := (nI_eq (a := 1) (b := 0) (by omega) (by omega)).mp c21
          exfalso; omega
        · replace c21 : ¬ 1 = 0 := fun zq => c21 ((nI_eq (a := 1) (b := 0) (by omega) (by omega)).mpr zq)
          refine lv_aload_n hx hb dX8_at_24 rfl (lv_at hl 0 rfl) ?_
          refine lv_aload_n hx hb dX8_at_25 rfl (lv_at hl 0 rfl) ?_
          refine lv_iload_n hx hb dX8_at_26 rfl (lv_at hl 1 rfl) ?_
          refine lv_bipush (v := nI 79) hx hb dX8_at_27 (by decide) ?_
          obtain ⟨ni, rwi, Fi, Gi, hRi, hni, hLi, hKi⟩ := hrs i (by omega)
          have api := hRi.apart hRw (hmd.two (i := i) (j := 28) (by omega) (by omega) (by omega))
          replace hRi := hRi.keep2 (fun b o hb ho => fr b o ho (hRi.ney hY0 hb) (hb.elim (fun q => q ▸ api.1) (fun hb => hb.elim (fun q => q ▸ api.2.1) (fun q => q ▸ api.2.2))))
          have fai := hRi.2.2.2.1
          have fki := hRi.2.2.2.2.1
          have fvi := hRi.2.2.2.2.2
          unfold qRb at fai
          unfold qJr at fki fvi
          refine q_callV (rest := [.ref y]) C (c_X8_holds l D cy N0 hv2 y ms ra rk rv i 79 _ _ _ _ _ _ _ _ hY rfl hms ⟨hRi.1, hRi.2.1, hRi.2.2.1, fai, fki, fvi⟩ (by omega)) kX8_holds g1264 g1266 rfl gp42 g4 hP hS hY (by first | decide | omega) hl.1 rfl (by simp [q_catrf, q_cati, q_catl, q_cata, q_catn]) (by first | decide | omega) dX8_at_29 (fun q ce E h' H1 locs1 hE => hE.elim) (fun v hh4 H locs hq hP hS => ?_)
          obtain ⟨rfl, rfl⟩ := hq
          cases hoi : bHo (S i).1 79 with
          | false =>
            refine lv_iconst (v := nI 2) hx hb dX8_at_32 (by decide) ?_
            refine q_callV (rest := []) C (c_X8_good0 l D cy N0 hv2 y ms mb (ra 28) od pt fi re rc rs so ot cn la ro gr 0 ca mv ct fau cs ce rn (nI 2) hY) kX8_good g1249 g1251 rfl gp41 g4 hP hS hY (by first | decide | omega) hl.1 rfl (by decide) (by first | decide | omega) dX8_at_33 (fun q ce E h' H1 locs1 hE => hE.elim) (fun v hh5 H locs hq hP hS => ?_)
            obtain ⟨rfl, rfl⟩ := hq
            replace hP : qP D N0 (qs hv2 y (.inr (8, [.ref ms, .ref mb, .ref (ra 28), .int gr, .int (nI 2), .int ca, .int mv, .ref od, .ref pt, .int ct, .int fau, .ref fi, .ref re, .int cs, .ref rc, .ref rs, .ref so, .ref ot, .ref cn, .ref la, .int ce, .ref ro, .int rn]))) H := hP
            obtain ⟨hv3, ehv3⟩ : ∃ z : qH, z = qs hv2 y (.inr (8, [.ref ms, .ref mb, .ref (ra 28), .int gr, .int (nI 2), .int ca, .int mv, .ref od, .ref pt, .int ct, .int fau, .ref fi, .ref re, .int cs, .ref rc, .ref rs, .ref so, .ref ot, .ref cn, .ref la, .int ce, .ref ro, .int rn])) := ⟨_, rfl⟩
            rw [← ehv3] at hP
            have khv3 : ∀ b o, b ≠ y → hv2 b = some o → hv3 b = some o := by rw [ehv3]; exact fun b o nb hb => (qs_ne nb).trans hb
            replace hms := khv3 _ _ (fun q => by subst q; have := hms.symm.trans hY; first | cases this | simp at this) hms
            replace hmb := khv3 _ _ (fun q => by subst q; have := hmb.symm.trans hY; first | cases this | simp at this) hmb
            replace faw := khv3 _ _ (fun q => by have z9 := faw; rw [q] at z9; have := z9.symm.trans hY; first | cases this | simp at this) faw
            replace fkw := khv3 _ _ (fun q => by have z9 := fkw; rw [q] at z9; have := z9.symm.trans hY; first | cases this | simp at this) fkw
            replace fvw := khv3 _ _ (fun q => by have z9 := fvw; rw [q] at z9; have := z9.symm.trans hY; first | cases this | simp at this) fvw
            replace fai := khv3 _ _ (fun q => by have z9 := fai; rw [q] at z9; have := z9.symm.trans hY; first | cases this | simp at this) fai
            replace fki := khv3 _ _ (fun q => by have z9 := fki; rw [q] at z9; have := z9.symm.trans hY; first | cases this | simp at this) fki
            replace fvi := khv3 _ _ (fun q => by have z9 := fvi; rw [q] at z9; have := z9.symm.trans hY; first | cases this | simp at this) fvi
            replace hY : hv3 y = some (.inr (8, [.ref ms, .ref mb, .ref (ra 28), .int gr, .int (nI 2), .int ca, .int mv, .ref od, .ref pt, .int ct, .int fau, .ref fi, .ref re, .int cs, .ref rc, .ref rs, .ref so, .ref ot, .ref cn, .ref la, .int ce, .ref ro, .int rn])) := by rw [ehv3]; exact qs_self
            clear ehv3
            replace fr := fun b o hb n1 n2 => khv3 b o n1 (fr b o hb n1 n2)
            refine lv_if_ne (tgt := 41) hx hb dX8_at_36 (by decide) (fun c36 => ?_) (fun c36 => ?_)
            · replace c36 : ¬ 0 = 0 := fun zq => c36 ((nI_eq (a := 0) (b := 0) (by omega) (by omega)).mpr zq)
              exfalso; omega
            · replace c36 : 0 = 0 := (nI_eq (a := 0) (b := 0) (by omega) (by omega)).mp c36
              refine lv_lconst (v := 0) hx hb dX8_at_39 (by decide) ?_
              have eX : X = (2, 0, (ms, mb, ra 28, od, pt, ro, gr, cd, ca, mv, ct, fau, rn), a, k) := by rw [← hX]; unfold xs_at; rw [if_neg (by rw [ebi]; exact fun z => z.elim (fun z => by cases z) c9), eci, if_pos hoi]
              obtain ⟨m8, f8⟩ := hM.fin0 hY0 (h' := hv3) ⟨hRw.1, hRw.2.1, hRw.2.2.1, faw, fkw, fvw⟩ fr
              obtain ⟨q8, r8⟩ := hQ.rowM (o' := oCd (ms, mb, ra 28, od, pt, ro, gr, cd, ca, mv, ct, fau, rn) 2) hY0 hY m8 f8 ⟨rfl, rfl, rfl, rfl, rfl, rfl⟩
              exact q_lret C hP hS ⟨by rw [eX], A, ct, by rw [eX]; exact q8, r8⟩ (by omega) dX8_at_40
          | true =>
            refine lv_iconst (v := nI 2) hx hb dX8_at_32 (by decide) ?_
            refine q_callV (rest := []) C (c_X8_good1 l D cy N0 hv2 y ms mb (ra 28) od pt fi re rc rs so ot cn la ro gr 0 ca mv ct fau cs ce rn (nI 2) hY) kX8_good g1249 g1251 rfl gp41 g4 hP hS hY (by first | decide | omega) hl.1 rfl (by decide) (by first | decide | omega) dX8_at_33 (fun q ce E h' H1 locs1 hE => hE.elim) (fun v hh6 H locs hq hP hS => ?_)
            obtain ⟨rfl, rfl⟩ := hq
            replace hP : qP D N0 (qs hv2 y (.inr (8, [.ref ms, .ref mb, .ref (ra 28), .int gr, .int 0, .int ca, .int mv, .ref od, .ref pt, .int ct, .int fau, .ref fi, .ref re, .int cs, .ref rc, .ref rs, .ref so, .ref ot, .ref cn, .ref la, .int ce, .ref ro, .int rn]))) H := hP
            obtain ⟨hv4, ehv4⟩ : ∃ z : qH, z = qs hv2 y (.inr (8, [.ref ms, .ref mb, .ref (ra 28), .int gr, .int 0, .int ca, .int mv, .ref od, .ref pt, .int ct, .int fau, .ref fi, .ref re, .int cs, .ref rc, .ref rs, .ref so, .ref ot, .ref cn, .ref la, .int ce, .ref ro, .int rn])) := ⟨_, rfl⟩
            rw [← ehv4] at hP
            have khv4 : ∀ b o, b ≠ y → hv2 b = some o → hv4 b = some o := by rw [ehv4]; exact fun b o nb hb => (qs_ne nb).trans hb
            replace hms := khv4 _ _ (fun q => by subst q; have := hms.symm.trans hY; first | cases this | simp at this) hms
            replace hmb := khv4 _ _ (fun q => by subst q; have := hmb.symm.trans hY; first | cases this | simp at this) hmb
            replace faw := khv4 _ _ (fun q => by have z9 := faw; rw [q] at z9; have := z9.symm.trans hY; first | cases this | simp at this) faw
            replace fkw := khv4 _ _ (fun q => by have z9 := fkw; rw [q] at z9; have := z9.symm.trans hY; first | cases this | simp at this) fkw
            replace fvw := khv4 _ _ (fun q => by have z9 := fvw; rw [q] at z9; have := z9.symm.trans hY; first | cases this | simp at this) fvw
            replace fai := khv4 _ _ (fun q => by have z9 := fai; rw [q] at z9; have := z9.symm.trans hY; first | cases this | simp at this) fai
            replace fki := khv4 _ _ (fun q => by have z9 := fki; rw [q] at z9; have := z9.symm.trans hY; first | cases this | simp at this) fki
            replace fvi := khv4 _ _ (fun q => by have z9 := fvi; rw [q] at z9; have := z9.symm.trans hY; first | cases this | simp at this) fvi
            replace hY : hv4 y = some (.inr (8, [.ref ms, .ref mb, .ref (ra 28), .int gr, .int 0, .int ca, .int mv, .ref od, .ref pt, .int ct, .int fau, .ref fi, .ref re, .int cs, .ref rc, .ref rs, .ref so, .ref ot, .ref cn, .ref la, .int ce, .ref ro, .int rn])) := by rw [ehv4]; exact qs_self
            clear ehv4
            replace fr := fun b o hb n1 n2 => khv4 b o n1 (fr b o hb n1 n2)
            refine lv_if_ne (tgt := 41) hx hb dX8_at_36 (by decide) (fun c36 => ?_) (fun c36 => ?_)
            · replace c36 : ¬ 1 = 0 := fun zq => c36 ((nI_eq (a := 1) (b := 0) (by omega) (by omega)).mpr zq)
              refine lv_aload_n hx hb dX8_at_41 rfl (lv_at hl 0 rfl) ?_
              refine q_get C hP hY rfl inX8 0 (by decide) g1167 rfl dX8_at_42 ?_
              refine lv_iload_n hx hb dX8_at_45 rfl (lv_at hl 1 rfl) ?_
              refine q_aaldR C hP hms rfl (by omega) (by omega) rfl dX8_at_46 ?_
              refine lv_astore_n (lv' := [(3, .ref (ra i)), (0, .ref y), (1, .int (nI i)), (2, .int (nI q))]) hx hb dX8_at_47 rfl hl (by decide) rfl (fun ls hl => ?_)
              refine lv_aload_n hx hb dX8_at_48 rfl (lv_at hl 0 rfl) ?_
              refine q_get C hP fai rfl inX7 2 (by decide) g1142 rfl dX8_at_49 ?_
              refine lv_bipush (v := 6) hx hb dX8_at_52 (by decide) ?_
              refine lv_icmp_ne (tgt := 67) hx hb dX8_at_54 (by decide) (fun c54 => ?_) (fun c54 => ?_)
              · refine lv_aload_n hx hb dX8_at_67 rfl (lv_at hl 1 rfl) ?_
                refine lv_iload_n hx hb dX8_at_68 rfl (lv_at hl 3 rfl) ?_
                refine lv_aload_n hx hb dX8_at_69 rfl (lv_at hl 0 rfl) ?_
                refine q_get C hP fai rfl inX7 3 (by decide) g1143 rfl dX8_at_70 ?_
                refine lv_icmp_ge (tgt := 80) hx hb dX8_at_73 (by decide) (fun c73 => ?_) (fun c73 => ?_)
                · replace c73 : ni ≤ q := (nI_leI (a := ni) (b := q) (by omega) (by omega)).mp c73
                  refine lv_iconst (v := nI 0) hx hb dX8_at_80 (by decide) ?_
                  refine lv_iconst (v := nI 3) hx hb dX8_at_81 (by decide) ?_
                  refine q_callV (rest := []) C (c_X8_good0 l D cy N0 hv4 y ms mb (ra 28) od pt fi re rc rs so ot cn la ro gr 0 ca mv ct fau cs ce rn (nI 3) hY) kX8_good g1249 g1251 rfl gp41 g4 hP hS hY (by first | decide | omega) hl.1 rfl (by decide) (by first | decide | omega) dX8_at_82 (fun q ce E h' H1 locs1 hE => hE.elim) (fun v hh7 H locs hq hP hS => ?_)
                  obtain ⟨rfl, rfl⟩ := hq
                  replace hP : qP D N0 (qs hv4 y (.inr (8, [.ref ms, .ref mb, .ref (ra 28), .int gr, .int (nI 3), .int ca, .int mv, .ref od, .ref pt, .int ct, .int fau, .ref fi, .ref re, .int cs, .ref rc, .ref rs, .ref so, .ref ot, .ref cn, .ref la, .int ce, .ref ro, .int rn]))) H := hP
                  obtain ⟨hv5, ehv5⟩ : ∃ z : qH, z = qs hv4 y (.inr (8, [.ref ms, .ref mb, .ref (ra 28), .int gr, .int (nI 3), .int ca, .int mv, .ref od, .ref pt, .int ct, .int fau, .ref fi, .ref re, .int cs, .ref rc, .ref rs, .ref so, .ref ot, .ref cn, .ref la, .int ce, .ref ro, .int rn])) := ⟨_, rfl⟩
                  rw [← ehv5] at hP
                  have khv5 : ∀ b o, b ≠ y → hv4 b = some o → hv5 b = some o := by rw [ehv5]; exact fun b o nb hb => (qs_ne nb).trans hb
                  replace hms := khv5 _ _ (fun q => by subst q; have := hms.symm.trans hY; first | cases this | simp at this) hms
                  replace hmb := khv5 _ _ (fun q => by subst q; have := hmb.symm.trans hY; first | cases this | simp at this) hmb
                  replace faw := khv5 _ _ (fun q => by have z9 := faw; rw [q] at z9; have := z9.symm.trans hY; first | cases this | simp at this) faw
                  replace fkw := khv5 _ _ (fun q => by have z9 := fkw; rw [q] at z9; have := z9.symm.trans hY; first | cases this | simp at this) fkw
                  replace fvw := khv5 _ _ (fun q => by have z9 := fvw; rw [q] at z9; have := z9.symm.trans hY; first | cases this | simp at this) fvw
                  replace fai := khv5 _ _ (fun q => by have z9 := fai; rw [q] at z9; have := z9.symm.trans hY; first | cases this | simp at this) fai
                  replace fki := khv5 _ _ (fun q => by have z9 := fki; rw [q] at z9; have := z9.symm.trans hY; first | cases this | simp at this) fki
                  replace fvi := khv5 _ _ (fun q => by have z9 := fvi; rw [q] at z9; have := z9.symm.trans hY; first | cases this | simp at this) fvi
                  replace hY : hv5 y = some (.inr (8, [.ref ms, .ref mb, .ref (ra 28), .int gr, .int (nI 3), .int ca, .int mv, .ref od, .ref pt, .int ct, .int fau, .ref fi, .ref re, .int cs, .ref rc, .ref rs, .ref so, .ref ot, .ref cn, .ref la, .int ce, .ref ro, .int rn])) := by rw [ehv5]; exact qs_self
                  clear ehv5
                  replace fr := fun b o hb n1 n2 => khv5 b o n1 (fr b o hb n1 n2)
                  refine lv_if_ne (tgt := 90) hx hb dX8_at_85 (by decide) (fun c85 => ?_) (fun c85 => ?_)
                  · replace c85 : ¬ 0 = 0 := fun zq => c85 ((nI_eq (a := 0) (b := 0) (by omega) (by omega)).mpr zq)
                    exfalso; omega
                  · replace c85 : 0 = 0 := (nI_eq (a := 0) (b := 0) (by omega) (by omega)).mp c85
                    refine lv_lconst (v := 0) hx hb dX8_at_88 (by decide) ?_
                    have eX : X = (3, 0, (ms, mb, ra 28, od, pt, ro, gr, cd, ca, mv, ct, fau, rn), a, k) := by rw [← hX]; unfold xs_at; rw [if_neg (by rw [ebi]; exact fun z => z.elim (fun z => by cases z) c9), eci, if_neg (by rw [hoi]; decide), if_neg c54, ecq, hLi, if_pos (by rw [qLs_len]; omega)]
                    obtain ⟨m8, f8⟩ := hM.fin0 hY0 (h' := hv5) ⟨hRw.1, hRw.2.1, hRw.2.2.1, faw, fkw, fvw⟩ fr
                    obtain ⟨q8, r8⟩ := hQ.rowM (o' := oCd (ms, mb, ra 28, od, pt, ro, gr, cd, ca, mv, ct, fau, rn) 3) hY0 hY m8 f8 ⟨rfl, rfl, rfl, rfl, rfl, rfl⟩
                    exact q_lret C hP hS ⟨by rw [eX], A, ct, by rw [eX]; exact q8, r8⟩ (by omega) dX8_at_89
                · replace c73 : ¬ ni ≤ q := fun zq => c73 ((nI_leI (a := ni) (b := q) (by omega) (by omega)).mpr zq)
                  refine lv_iconst (v := nI 1) hx hb dX8_at_76 (by decide) ?_
                  refine lv_goto (tgt := 81) hx hb dX8_at_77 (by decide) ?_
                  refine lv_iconst (v := nI 3) hx hb dX8_at_81 (by decide) ?_
                  refine q_callV (rest := []) C (c_X8_good1 l D cy N0 hv4 y ms mb (ra 28) od pt fi re rc rs so ot cn la ro gr 0 ca mv ct fau cs ce rn (nI 3) hY) kX8_good g1249 g1251 rfl gp41 g4 hP hS hY (by first | decide | omega) hl.1 rfl (by decide) (by first | decide | omega) dX8_at_82 (fun q ce E h' H1 locs1 hE => hE.elim) (fun v hh8 H locs hq hP hS => ?_)
                  obtain ⟨rfl, rfl⟩ := hq
                  replace hP : qP D N0 (qs hv4 y (.inr (8, [.ref ms, .ref mb, .ref (ra 28), .int gr, .int 0, .int ca, .int mv, .ref od, .ref pt, .int ct, .int fau, .ref fi, .ref re, .int cs, .ref rc, .ref rs, .ref so, .ref ot, .ref cn, .ref la, .int ce, .ref ro, .int rn]))) H := hP
                  obtain ⟨hv6, ehv6⟩ : ∃ z : qH, z = qs hv4 y (.inr (8, [.ref ms, .ref mb, .ref (ra 28), .int gr, .int 0, .int ca, .int mv, .ref od, .ref pt, .int ct, .int fau, .ref fi, .ref re, .int cs, .ref rc, .ref rs, .ref so, .ref ot, .ref cn, .ref la, .int ce, .ref ro, .int rn])) := ⟨_, rfl⟩
                  rw [← ehv6] at hP
                  have khv6 : ∀ b o, b ≠ y → hv4 b = some o → hv6 b = some o := by rw [ehv6]; exact fun b o nb hb => (qs_ne nb).trans hb
                  replace hms := khv6 _ _ (fun q => by subst q; have := hms.symm.trans hY; first | cases this | simp at this) hms
                  replace hmb := khv6 _ _ (fun q => by subst q; have := hmb.symm.trans hY; first | cases this | simp at this) hmb
                  replace faw := khv6 _ _ (fun q => by have z9 := faw; rw [q] at z9; have := z9.symm.trans hY; first | cases this | simp at this) faw
                  replace fkw := khv6 _ _ (fun q => by have z9 := fkw; rw [q] at z9; have := z9.symm.trans hY; first | cases this | simp at this) fkw
                  replace fvw := khv6 _ _ (fun q => by have z9 := fvw; rw [q] at z9; have := z9.symm.trans hY; first | cases this | simp at this) fvw
                  replace fai := khv6 _ _ (fun q => by have z9 := fai; rw [q] at z9; have := z9.symm.trans hY; first | cases this | simp at this) fai
                  replace fki := khv6 _ _ (fun q => by have z9 := fki; rw [q] at z9; have := z9.symm.trans hY; first | cases this | simp at this) fki
                  replace fvi := khv6 _ _ (fun q => by have z9 := fvi; rw [q] at z9; have := z9.symm.trans hY; first | cases this | simp at this) fvi
                  replace hY : hv6 y = some (.inr (8, [.ref ms, .ref mb, .ref (ra 28), .int gr, .int 0, .int ca, .int mv, .ref od, .ref pt, .int ct, .int fau, .ref fi, .ref re, .int cs, .ref rc, .ref rs, .ref so, .ref ot, .ref cn, .ref la, .int ce, .ref ro, .int rn])) := by rw [ehv6]; exact qs_self
                  clear ehv6
                  replace fr := fun b o hb n1 n2 => khv6 b o n1 (fr b o hb n1 n2)
                  refine lv_if_ne (tgt := 90) hx hb dX8_at_85 (by decide) (fun c85 => ?_) (fun c85 => ?_)
                  · replace c85 : ¬ 1 = 0 := fun zq => c85 ((nI_eq (a := 1) (b := 0) (by omega) (by omega)).mpr zq)
                    refine lv_aload_n hx hb dX8_at_90 rfl (lv_at hl 0 rfl) ?_
                    refine q_get C hP fai rfl inX7 2 (by decide) g1142 rfl dX8_at_91 ?_
                    refine lv_iconst (v := 1) hx hb dX8_at_94 (by decide) ?_
                    refine lv_icmp_eq (tgt := 106) hx hb dX8_at_95 (by decide) (fun c95 => ?_) (fun c95 => ?_)
                    · refine lv_aload_n hx hb dX8_at_106 rfl (lv_at hl 1 rfl) ?_
                      refine lv_aload_n hx hb dX8_at_107 rfl (lv_at hl 0 rfl) ?_
                      obtain ⟨m8, f8⟩ := hM.fin0 hY0 (h' := hv6) ⟨hRw.1, hRw.2.1, hRw.2.2.1, faw, fkw, fvw⟩ fr
                      obtain ⟨q8, r8⟩ := hQ.rowM (o' := oCd (ms, mb, ra 28, od, pt, ro, gr, cd, ca, mv, ct, fau, rn) 0) hY0 hY m8 f8 ⟨rfl, rfl, rfl, rfl, rfl, rfl⟩
                      have hkd8 : (S i).1 = 1 ∨ (S i).1 = 2 := Or.inl c95
                      have hq8 : qNo (qIx Fi ni) := qIx_no hni (hLi ▸ (hI i (by omega)).2.1 (hkd8.elim Or.inl (fun z => Or.inr (Or.inl z))))
                      have na8 := q8.2.2.2.1.no hY fai (Or.inr ⟨_, rfl⟩)
                      have nk8 := q8.2.2.2.1.no hY fki (Or.inl ⟨_, rfl, fun O z => by cases z⟩)
                      have hY8 := hY
                      refine q_callV (rest := []) C (c_X8_order l D cy N0 hv6 y ms mb (ra 28) od pt fi re rc rs so ot cn la ro gr 0 ca mv ct fau cs ce rn pa (ra i) (rk i) (rv i) ((S i).1) (nI (S i).2.2.1) (nI (S i).2.2.2) rwi ni Fi Gi hY q8.2.2.2.1 ⟨hRi.1, hRi.2.1, hRi.2.2.1, fai, fki, fvi⟩ hni hq8) kX8_order g1367 g1369 rfl gp59 g4 hP hS hY (by first | decide | omega) hl.1 rfl (by decide) (by first | decide | omega) dX8_at_108 (fun q ce E h' H1 locs1 hE => hE.elim) (fun v hh9 H locs hq hP hS => ?_)
                      obtain ⟨rfl, hY7, ⟨O7, ho7⟩, hd7, fr7⟩ := hq
                      have fai7 := fr7 _ _ fai na8.1 na8.2.1 na8.2.2
                      have fki7 := fr7 _ _ fki nk8.1 nk8.2.1 nk8.2.2
                      obtain ⟨q7, r7⟩ := q8.row (o' := oCt (oCd (ms, mb, ra 28, od, pt, ro, gr, cd, ca, mv, ct, fau, rn) 0) (nI ni)) hY8 hY7 (m8.keepO hY8 q8.2.2.2.1 fr7) hd7 (fun b x hb n1 _ n3 n4 => fr7 b x hb n1 n3 n4) ⟨rfl, rfl, rfl, rfl, rfl, rfl⟩
                      refine lv_aload_n hx hb dX8_at_111 rfl (lv_at hl 0 rfl) ?_
                      refine q_get C hP fai7 rfl inX7 0 (by decide) g1138 rfl dX8_at_112 ?_
                      refine lv_aload_n hx hb dX8_at_115 rfl (lv_at hl 1 rfl) ?_
                      refine q_get C hP hY7 rfl inX8 7 (by decide) g1174 rfl dX8_at_116 ?_
                      refine lv_iload_n hx hb dX8_at_119 rfl (lv_at hl 3 rfl) ?_
                      refine q_ialdN C hP ho7 (by omega) (by omega) dX8_at_120 ?_
                      obtain ⟨j9, hj9, ej9, eT9⟩ := qIx_or (kd := (S i).1) (m := qMk gr) (f := Fi) (g := Gi) (O := O7) hni (show q < ni by omega)
                      rw [ej9]
                      refine q_laldN C hP fki7 (by omega) (by omega) dX8_at_121 ?_
                      have eX : X = (0, Fi j9, (ms, mb, ra 28, od, pt, ro, gr, cd, ca, mv, ct, fau, rn), a, k) := by rw [← hX]; unfold xs_at; rw [if_neg (by rw [ebi]; exact fun z => z.elim (fun z => by cases z) c9), eci, if_neg (by rw [hoi]; decide), if_neg c54, ecq, hLi, if_neg (fun z => z (by rw [qLs_len]; omega)), if_pos hkd8, List.getD_eq_getElem?_getD, eT9]; rfl
                      exact q_lret C hP hS ⟨by rw [eX], A, nI ni, by rw [eX]; exact q7, r8.tr q8 rfl r7⟩ (by omega) dX8_at_122
                    · refine lv_aload_n hx hb dX8_at_98 rfl (lv_at hl 0 rfl) ?_
                      refine q_get C hP fai rfl inX7 2 (by decide) g1142 rfl dX8_at_99 ?_
                      refine lv_iconst (v := 2) hx hb dX8_at_102 (by decide) ?_
                      refine lv_icmp_ne (tgt := 123) hx hb dX8_at_103 (by decide) (fun c103 => ?_) (fun c103 => ?_)
                      · refine lv_aload_n hx hb dX8_at_123 rfl (lv_at hl 0 rfl) ?_
                        refine q_get C hP fai rfl inX7 0 (by decide) g1138 rfl dX8_at_124 ?_
                        refine lv_iload_n hx hb dX8_at_127 rfl (lv_at hl 3 rfl) ?_
                        refine q_laldN C hP fki (by omega) (by omega) dX8_at_128 ?_
                        have eX : X = (0, Fi q, (ms, mb, ra 28, od, pt, ro, gr, cd, ca, mv, ct, fau, rn), a, k) := by rw [← hX]; unfold xs_at; rw [if_neg (by rw [ebi]; exact fun z => z.elim (fun z => by cases z) c9), eci, if_neg (by rw [hoi]; decide), if_neg c54, ecq, hLi, if_neg (fun z => z (by rw [qLs_len]; omega)), if_neg (fun z => z.elim c95 c103), List.getD_eq_getElem?_getD, qLs_get2 (by omega)]; rfl
                        obtain ⟨m8, f8⟩ := hM.fin0 hY0 (h' := hv6) ⟨hRw.1, hRw.2.1, hRw.2.2.1, faw, fkw, fvw⟩ fr
                        obtain ⟨q8, r8⟩ := hQ.rowM (o' := oCd (ms, mb, ra 28, od, pt, ro, gr, cd, ca, mv, ct, fau, rn) 0) hY0 hY m8 f8 ⟨rfl, rfl, rfl, rfl, rfl, rfl⟩
                        exact q_lret C hP hS ⟨by rw [eX], A, ct, by rw [eX]; exact q8, r8⟩ (by omega) dX8_at_129
                      · refine lv_aload_n hx hb dX8_at_106 rfl (lv_at hl 1 rfl) ?_
                        refine lv_aload_n hx hb dX8_at_107 rfl (lv_at hl 0 rfl) ?_
                        obtain ⟨m8, f8⟩ := hM.fin0 hY0 (h' := hv6) ⟨hRw.1, hRw.2.1, hRw.2.2.1, faw, fkw, fvw⟩ fr
                        obtain ⟨q8, r8⟩ := hQ.rowM (o' := oCd (ms, mb, ra 28, od, pt, ro, gr, cd, ca, mv, ct, fau, rn) 0) hY0 hY m8 f8 ⟨rfl, rfl, rfl, rfl, rfl, rfl⟩
                        have hkd8 : (S i).1 = 1 ∨ (S i).1 = 2 := Or.inr c103
                        have hq8 : qNo (qIx Fi ni) := qIx_no hni (hLi ▸ (hI i (by omega)).2.1 (hkd8.elim Or.inl (fun z => Or.inr (Or.inl z))))
                        have na8 := q8.2.2.2.1.no hY fai (Or.inr ⟨_, rfl⟩)
                        have nk8 := q8.2.2.2.1.no hY fki (Or.inl ⟨_, rfl, fun O z => by cases z⟩)
                        have hY8 := hY
                        refine q_callV (rest := []) C (c_X8_order l D cy N0 hv6 y ms mb (ra 28) od pt fi re rc rs so ot cn la ro gr 0 ca mv ct fau cs ce rn pa (ra i) (rk i) (rv i) ((S i).1) (nI (S i).2.2.1) (nI (S i).2.2.2) rwi ni Fi Gi hY q8.2.2.2.1 ⟨hRi.1, hRi.2.1, hRi.2.2.1, fai, fki, fvi⟩ hni hq8) kX8_order g1367 g1369 rfl gp59 g4 hP hS hY (by first | decide | omega) hl.1 rfl (by decide) (by first | decide | omega) dX8_at_108 (fun q ce E h' H1 locs1 hE => hE.elim) (fun v hh10 H locs hq hP hS => ?_)
                        obtain ⟨rfl, hY7, ⟨O7, ho7⟩, hd7, fr7⟩ := hq
                        have fai7 := fr7 _ _ fai na8.1 na8.2.1 na8.2.2
                        have fki7 := fr7 _ _ fki nk8.1 nk8.2.1 nk8.2.2
                        obtain ⟨q7, r7⟩ := q8.row (o' := oCt (oCd (ms, mb, ra 28, od, pt, ro, gr, cd, ca, mv, ct, fau, rn) 0) (nI ni)) hY8 hY7 (m8.keepO hY8 q8.2.2.2.1 fr7) hd7 (fun b x hb n1 _ n3 n4 => fr7 b x hb n1 n3 n4) ⟨rfl, rfl, rfl, rfl, rfl, rfl⟩
                        refine lv_aload_n hx hb dX8_at_111 rfl (lv_at hl 0 rfl) ?_
                        refine q_get C hP fai7 rfl inX7 0 (by decide) g1138 rfl dX8_at_112 ?_
                        refine lv_aload_n hx hb dX8_at_115 rfl (lv_at hl 1 rfl) ?_
                        refine q_get C hP hY7 rfl inX8 7 (by decide) g1174 rfl dX8_at_116 ?_
                        refine lv_iload_n hx hb dX8_at_119 rfl (lv_at hl 3 rfl) ?_
                        refine q_ialdN C hP ho7 (by omega) (by omega) dX8_at_120 ?_
                        obtain ⟨j9, hj9, ej9, eT9⟩ := qIx_or (kd := (S i).1) (m := qMk gr) (f := Fi) (g := Gi) (O := O7) hni (show q < ni by omega)
                        rw [ej9]
                        refine q_laldN C hP fki7 (by omega) (by omega) dX8_at_121 ?_
                        have eX : X = (0, Fi j9, (ms, mb, ra 28, od, pt, ro, gr, cd, ca, mv, ct, fau, rn), a, k) := by rw [← hX]; unfold xs_at; rw [if_neg (by rw [ebi]; exact fun z => z.elim (fun z => by cases z) c9), eci, if_neg (by rw [hoi]; decide), if_neg c54, ecq, hLi, if_neg (fun z => z (by rw [qLs_len]; omega)), if_pos hkd8, List.getD_eq_getElem?_getD, eT9]; rfl
                        exact q_lret C hP hS ⟨by rw [eX], A, nI ni, by rw [eX]; exact q7, r8.tr q8 rfl r7⟩ (by omega) dX8_at_122
                  · replace c85 : 1 = 0 := (nI_eq (a := 1) (b := 0) (by omega) (by omega)).mp c85
                    exfalso; omega
              · refine lv_aload_n hx hb dX8_at_57 rfl (lv_at hl 1 rfl) ?_
                refine lv_aload_n hx hb dX8_at_58 rfl (lv_at hl 0 rfl) ?_
                refine q_get C hP fai rfl inX7 4 (by decide) g1144 rfl dX8_at_59 ?_
                refine lv_iload_n hx hb dX8_at_62 rfl (lv_at hl 3 rfl) ?_
                obtain ⟨m8, f8⟩ := hM.fin0 hY0 (h' := hv4) ⟨hRw.1, hRw.2.1, hRw.2.2.1, faw, fkw, fvw⟩ fr
                obtain ⟨q8, r8⟩ := hQ.rowM (o' := oCd (ms, mb, ra 28, od, pt, ro, gr, cd, ca, mv, ct, fau, rn) 0) hY0 hY m8 f8 ⟨rfl, rfl, rfl, rfl, rfl, rfl⟩
                obtain ⟨X9, eX9⟩ : ∃ z, xWalk F q (oFa (oCd (ms, mb, ra 28, od, pt, ro, gr, cd, ca, mv, ct, fau, rn) 0) 0, a, k) (S i).2.2.1 = z := ⟨_, rfl⟩
                have eX : X = (xStC X9, xStV X9, X9.2) := by rw [← hX]; unfold xs_at; rw [if_neg (by rw [ebi]; exact fun z => z.elim (fun z => by cases z) c9), eci, if_neg (by rw [hoi]; decide), if_pos c54, ecq]; dsimp only; rw [eX9]
                have eP1 : qP1 X.2.2.2.1 = qP1 X9.2.2.1 := by rw [eX]
                have eP2 : qP2 X.2.2.2.1 = qP2 X9.2.2.1 := by rw [eX]
                have hs8 := hSt i (by omega) c54
                have hV8 : qWv Bd sl Rn dp (oCd (ms, mb, ra 28, od, pt, ro, gr, cd, ca, mv, ct, fau, rn) 0, a, k) := hV.obj rfl
                have st9 := xWalk_stp hG hdc q (S i).2.2.1 dp (oFa (oCd (ms, mb, ra 28, od, pt, ro, gr, cd, ca, mv, ct, fau, rn) 0) 0, a, k) (hV8.obj rfl) rfl hs8
                rw [eX9] at st9
                obtain ⟨-, -, -, -, -, -, ⟨x6, y6, z6, e6⟩, -⟩ := st9
                refine q_callV (rest := []) C (w_streamAt l D cy N0 hv4 y A (oCd (ms, mb, ra 28, od, pt, ro, gr, cd, ca, mv, ct, fau, rn) 0) a k R ad Rn Bd sl d dc dp F (S i).2.2.1 q X9 q8.1 q8.2.1 q8.2.2.2.2.1 hV8 hB hF hG hdc hs8 (by omega) eX9) kX8_streamAt g1327 g1329 rfl gp49 g4 hP hS hY (by first | decide | omega) hl.1 rfl (by decide) (by first | decide | omega) dX8_at_63 (fun q ce E h' H1 locs1 hE => hE.elim) (fun v hh11 H locs hq hP hS => ?_)
                obtain ⟨rfl, A9, hS9, hF9, nA9⟩ := hq
                obtain ⟨q7, r7⟩ := q8.str hS9 hF9 nA9 (by rw [e6]; exact ⟨rfl, rfl, rfl, rfl, rfl, rfl⟩)
                exact q_lret C hP hS ⟨by rw [eX], A9, _, by rw [eX]; exact q7, r8.tr q8 rfl r7⟩ (by omega) dX8_at_66
            · replace c36 : 1 = 0 := (nI_eq (a := 1) (b := 0) (by omega) (by omega)).mp c36
              exfalso; omega
  · have ebi : bSl p0 = false := bSl_f sl9
    refine lv_if_eq (tgt := 16) hx hb dX8_at_5 (by decide) (fun c5 => ?_) (fun c5 => ?_)
    · replace c5 : 0 = 0 := (nI_eq (a := 0) (b := 0) (by omega) (by omega)).mp c5
      refine lv_iconst (v := nI 0) hx hb dX8_at_16 (by decide) ?_
      refine lv_iconst (v := nI 1) hx hb dX8_at_17 (by decide) ?_
      refine q_callV (rest := []) C (c_X8_good0 l D cy N0 h y ms mb (ra 28) od pt fi re rc rs so ot cn la ro gr cd ca mv ct fau cs ce rn (nI 1) hY) kX8_good g1249 g1251 rfl gp41 g4 hP hS hY (by first | decide | omega) hl.1 rfl (by decide) (by first | decide | omega) dX8_at_18 (fun q ce E h' H1 locs1 hE => hE.elim) (fun v hh12 H locs hq hP hS => ?_)
      obtain ⟨rfl, rfl⟩ := hq
      replace hP : qP D N0 (qs h y (.inr (8, [.ref ms, .ref mb, .ref (ra 28), .int gr, .int (nI 1), .int ca, .int mv, .ref od, .ref pt, .int ct, .int fau, .ref fi, .ref re, .int cs, .ref rc, .ref rs, .ref so, .ref ot, .ref cn, .ref la, .int ce, .ref ro, .int rn]))) H := hP
      obtain ⟨hv7, ehv7⟩ : ∃ z : qH, z = qs h y (.inr (8, [.ref ms, .ref mb, .ref (ra 28), .int gr, .int (nI 1), .int ca, .int mv, .ref od, .ref pt, .int ct, .int fau, .ref fi, .ref re, .int cs, .ref rc, .ref rs, .ref so, .ref ot, .ref cn, .ref la, .int ce, .ref ro, .int rn])) := ⟨_, rfl⟩
      rw [← ehv7] at hP
      have khv7 : ∀ b o, b ≠ y → h b = some o → hv7 b = some o := by rw [ehv7]; exact fun b o nb hb => (qs_ne nb).trans hb
      replace hms := khv7 _ _ (fun q => by subst q; have := hms.symm.trans hY; first | cases this | simp at this) hms
      replace hmb := khv7 _ _ (fun q => by subst q; have := hmb.symm.trans hY; first | cases this | simp at this) hmb
      replace faw := khv7 _ _ (fun q => by have z9 := faw; rw [q] at z9; have := z9.symm.trans hY; first | cases this | simp at this) faw
      replace fkw := khv7 _ _ (fun q => by have z9 := fkw; rw [q] at z9; have := z9.symm.trans hY; first | cases this | simp at this) fkw
      replace fvw := khv7 _ _ (fun q => by have z9 := fvw; rw [q] at z9; have := z9.symm.trans hY; first | cases this | simp at this) fvw
      replace hY : hv7 y = some (.inr (8, [.ref ms, .ref mb, .ref (ra 28), .int gr, .int (nI 1), .int ca, .int mv, .ref od, .ref pt, .int ct, .int fau, .ref fi, .ref re, .int cs, .ref rc, .ref rs, .ref so, .ref ot, .ref cn, .ref la, .int ce, .ref ro, .int rn])) := by rw [ehv7]; exact qs_self
      clear ehv7
      replace fr := fun b o hb n1 n2 => khv7 b o n1 (fr b o hb n1 n2)
      refine lv_if_eq (tgt := 39) hx hb dX8_at_21 (by decide) (fun c21 => ?_) (fun c21 => ?_)
      · replace c21 : 0 = 0 := (nI_eq (a := 0) (b := 0) (by omega) (by omega)).mp c21
        refine lv_lconst (v := 0) hx hb dX8_at_39 (by decide) ?_
        have eX : X = (1, 0, (ms, mb, ra 28, od, pt, ro, gr, cd, ca, mv, ct, fau, rn), a, k) := by rw [← hX]; unfold xs_at; rw [if_pos (Or.inl ebi)]
        obtain ⟨m8, f8⟩ := hM.fin0 hY0 (h' := hv7) ⟨hRw.1, hRw.2.1, hRw.2.2.1, faw, fkw, fvw⟩ fr
        obtain ⟨q8, r8⟩ := hQ.rowM (o' := oCd (ms, mb, ra 28, od, pt, ro, gr, cd, ca, mv, ct, fau, rn) 1) hY0 hY m8 f8 ⟨rfl, rfl, rfl, rfl, rfl, rfl⟩
        exact q_lret C hP hS ⟨by rw [eX], A, ct, by rw [eX]; exact q8, r8⟩ (by omega) dX8_at_40
      · replace c21 : ¬ 0 = 0 := fun zq => c21 ((nI_eq (a := 0) (b := 0) (by omega) (by omega)).mpr zq)
        exfalso; omega
    · replace c5 : ¬ 0 = 0 := fun zq => c5 ((nI_eq (a := 0) (b := 0) (by omega) (by omega)).mpr zq)
      exfalso; omega
