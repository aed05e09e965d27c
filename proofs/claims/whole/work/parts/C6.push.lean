theorem qAp.row {A : Nat → Prop} {ms mb od pt : Nat} {ra rk rv pa : Nat → Nat} (p : qAp A ms mb od pt ra rk rv pa) {i : Nat} (hi : i < 29) : ¬ A (ra i) ∧ ¬ A (rk i) ∧ ¬ A (rv i) := ⟨fun z => ((p _ z).2.2.1 i hi).1 rfl, fun z => ((p _ z).2.2.1 i hi).2.1 rfl, fun z => ((p _ z).2.2.1 i hi).2.2 rfl⟩
theorem qAp.two {A : Nat → Prop} {ms mb od pt : Nat} {ra rk rv pa : Nat → Nat} (p : qAp A ms mb od pt ra rk rv pa) : ¬ A ms ∧ ¬ A mb := ⟨fun z => (p _ z).1 rfl, fun z => (p _ z).2.1 rfl⟩
theorem qSy.yo2 {cy : Nat → ClassId} {h : qH} {y : Nat} {A : Nat → Prop} {o : qYf} {a : qWd} {k : qKd} (s : qSy cy h y A o a k) : ∃ fi re rc rs so ot cn la, h y = some (qYo o fi re rc rs so ot cn la (nI a.1) (nI k.1)) := by
  obtain ⟨fi2, re2, rc2, rs2, so2, ot2, cn2, la2, F, Rt, Rc, Rs, So, Ot, Cn, La, hY, -⟩ := s
  exact ⟨_, _, _, _, _, _, _, _, hY⟩
theorem qFR.rf {h : qH} {y od : Nat} {ra rk rv pa : Nat → Nat} {A : Nat → Prop} : qFR h h y od ra rk rv pa A A := ⟨fun _ _ e _ _ _ _ _ => e, fun _ z => z, fun _ z => Or.inl z⟩
def xs_push (S : Nat → qSlot) (W : qWo) (p0 p1 : Int32) (v : Int64) : Int32 × (Nat → qSlot) × qWo := if bSl p0 = false ∨ bSl p1 = false then (1, S, W) else if bHo (S p1.toNatClampNeg).1 65 = false then (2, S, W) else
  if (S p1.toNatClampNeg).1 = 6 then (0, qU S p0.toNatClampNeg (6, (S p1.toNatClampNeg).2.1, W.2.1.1, (S p1.toNatClampNeg).2.2.2), W.1, xCons W.2.1 v W.2.2.1, xRdy W.2.2 (S p1.toNatClampNeg).2.2.1) else
  if 1000 < (S p1.toNatClampNeg).2.1.length + 1 then (3, S, W) else (0, qU S p0.toNatClampNeg ((S p1.toNatClampNeg).1, (v, 0) :: (S p1.toNatClampNeg).2.1, (S p1.toNatClampNeg).2.2), W)
theorem bHo_65 {kd : Int32} (h : kd ∈ [(-1 : Int32), 0, 1, 2, 3, 4, 5, 6]) (e : bHo kd 65 = true) (n : ¬ kd = 6) : kd = 0 := by
  simp only [List.mem_cons, List.not_mem_nil, or_false] at h
  rcases h with rfl | rfl | rfl | rfl | rfl | rfl | rfl | rfl <;> revert e n <;> decide
theorem dX8_push_43 : decode cX8_push 43 = .ok (.aload_n 0, 1) := by decide +kernel
theorem dX8_push_44 : decode cX8_push 44 = .ok (.getfield 9, 3) := by decide +kernel
theorem dX8_push_47 : decode cX8_push 47 = .ok (.iload_n 2, 1) := by decide +kernel
theorem dX8_push_48 : decode cX8_push 48 = .ok (.aaload, 1) := by decide +kernel
theorem dX8_push_49 : decode cX8_push 49 = .ok (.aload_n 0, 1) := by decide +kernel
theorem dX8_push_50 : decode cX8_push 50 = .ok (.getfield 19, 3) := by decide +kernel
theorem dX8_push_53 : decode cX8_push 53 = .ok (.invokestatic 104, 3) := by decide +kernel
theorem dX8_push_56 : decode cX8_push 56 = .ok (.aload_n 0, 1) := by decide +kernel
theorem dX8_push_57 : decode cX8_push 57 = .ok (.getfield 19, 3) := by decide +kernel
theorem dX8_push_60 : decode cX8_push 60 = .ok (.getfield 75, 3) := by decide +kernel
theorem dX8_push_63 : decode cX8_push 63 = .ok (.bipush 6, 2) := by decide +kernel
theorem dX8_push_65 : decode cX8_push 65 = .ok (.if_icmp .ne 29, 3) := by decide +kernel
theorem dX8_push_68 : decode cX8_push 68 = .ok (.aload_n 0, 1) := by decide +kernel
theorem dX8_push_69 : decode cX8_push 69 = .ok (.getfield 19, 3) := by decide +kernel
theorem dX8_push_72 : decode cX8_push 72 = .ok (.aload_n 0, 1) := by decide +kernel
theorem dX8_push_73 : decode cX8_push 73 = .ok (.lload_n 3, 1) := by decide +kernel
theorem dX8_push_74 : decode cX8_push 74 = .ok (.aload_n 0, 1) := by decide +kernel
theorem dX8_push_75 : decode cX8_push 75 = .ok (.aload_n 0, 1) := by decide +kernel
theorem dX8_push_76 : decode cX8_push 76 = .ok (.getfield 19, 3) := by decide +kernel
theorem dX8_push_79 : decode cX8_push 79 = .ok (.getfield 81, 3) := by decide +kernel
theorem dX8_push_82 : decode cX8_push 82 = .ok (.invokevirtual 139, 3) := by decide +kernel
theorem dX8_push_85 : decode cX8_push 85 = .ok (.invokevirtual 143, 3) := by decide +kernel
theorem dX8_push_88 : decode cX8_push 88 = .ok (.putfield 81, 3) := by decide +kernel
theorem dX8_push_91 : decode cX8_push 91 = .ok (.goto 40, 3) := by decide +kernel
theorem dX8_push_94 : decode cX8_push 94 = .ok (.aload_n 0, 1) := by decide +kernel
theorem dX8_push_95 : decode cX8_push 95 = .ok (.getfield 19, 3) := by decide +kernel
theorem dX8_push_98 : decode cX8_push 98 = .ok (.iconst 0, 1) := by decide +kernel
theorem dX8_push_99 : decode cX8_push 99 = .ok (.lload_n 3, 1) := by decide +kernel
theorem dX8_push_100 : decode cX8_push 100 = .ok (.lconst 0, 1) := by decide +kernel
theorem dX8_push_101 : decode cX8_push 101 = .ok (.invokestatic 116, 3) := by decide +kernel
theorem dX8_push_104 : decode cX8_push 104 = .ok (.aload_n 0, 1) := by decide +kernel
theorem dX8_push_105 : decode cX8_push 105 = .ok (.aload_n 0, 1) := by decide +kernel
theorem dX8_push_106 : decode cX8_push 106 = .ok (.getfield 19, 3) := by decide +kernel
theorem dX8_push_109 : decode cX8_push 109 = .ok (.getfield 78, 3) := by decide +kernel
theorem dX8_push_112 : decode cX8_push 112 = .ok (.sipush 1000, 3) := by decide +kernel
theorem dX8_push_115 : decode cX8_push 115 = .ok (.if_icmp .gt 7, 3) := by decide +kernel
theorem dX8_push_118 : decode cX8_push 118 = .ok (.iconst 1, 1) := by decide +kernel
theorem dX8_push_119 : decode cX8_push 119 = .ok (.goto 4, 3) := by decide +kernel
theorem dX8_push_122 : decode cX8_push 122 = .ok (.iconst 0, 1) := by decide +kernel
theorem dX8_push_123 : decode cX8_push 123 = .ok (.iconst 3, 1) := by decide +kernel
theorem dX8_push_124 : decode cX8_push 124 = .ok (.invokevirtual 100, 3) := by decide +kernel
theorem dX8_push_127 : decode cX8_push 127 = .ok (.ifCond .ne 4, 3) := by decide +kernel
theorem dX8_push_130 : decode cX8_push 130 = .ok (.return_, 1) := by decide +kernel
theorem dX8_push_131 : decode cX8_push 131 = .ok (.aload_n 0, 1) := by decide +kernel
theorem dX8_push_132 : decode cX8_push 132 = .ok (.iload_n 1, 1) := by decide +kernel
theorem dX8_push_133 : decode cX8_push 133 = .ok (.iconst 0, 1) := by decide +kernel
theorem dX8_push_134 : decode cX8_push 134 = .ok (.invokevirtual 135, 3) := by decide +kernel
theorem dX8_push_137 : decode cX8_push 137 = .ok (.pop, 1) := by decide +kernel
theorem dX8_push_138 : decode cX8_push 138 = .ok (.return_, 1) := by decide +kernel
set_option maxRecDepth 100000 in
set_option maxHeartbeats 4000000 in
theorem w_push (l : Launch) (D : va_G) (cy : Nat → ClassId) (N0 : Nat) (h : qH) (y ms mb mw od pt fi re rc rs so ot cn la ro : Nat) (gr cd ca mv ct fau cs ce rn : Int32) (ra rk rv : Nat → Nat) (S : Nat → qSlot) (pa : Nat → Nat) (A : Nat → Prop) (a : qWd) (k : qKd) (R : Nat → List Int64) (ad : Nat → Nat) (Rn : Nat) (Bd sl d dc : Nat) (dp : Nat → Nat) (F : qWo → Nat → Nat × qWo) (p0 p1 : Int32) (p2 : Int64) (X : Int32 × (Nat → qSlot) × qWo) (hY : h y = some (.inr (8, [.ref ms, .ref mb, .ref mw, .int gr, .int cd, .int ca, .int mv, .ref od, .ref pt, .int ct, .int fau, .ref fi, .ref re, .int cs, .ref rc, .ref rs, .ref so, .ref ot, .ref cn, .ref la, .int ce, .ref ro, .int rn]))) (hQ : qRF cy h y A ra rk rv pa (ms, mb, mw, od, pt, ro, gr, cd, ca, mv, ct, fau, rn) a k S Rn R ad) (hI : ∀ i, i < 28 → qOk (S i).1 (S i).2.1) (hV : qWv Bd sl Rn dp ((ms, mb, mw, od, pt, ro, gr, cd, ca, mv, ct, fau, rn), a, k)) (hB : Bd ≤ 4000) (hF : qFS l D cy N0 y Bd Rn R ad F d) (hG : qFg Bd Rn F d) (hdc : dc < d) (hSt : ∀ i, i < 24 → (S i).1 = 6 → (S i).2.2.1 < a.1 ∧ dp (S i).2.2.1 ≤ dc) (hX : xs_push S ((ms, mb, mw, od, pt, ro, gr, cd, ca, mv, ct, fau, rn), a, k) p0 p1 p2 = X) : qC l D cy N0 yX8_push cX8_push 5 none 4 160 (qP1 X.2.2.2.1 - qP1 a) (qP2 X.2.2.2.1 - qP2 a) [.ref y, .int p0, .int p1, .long p2] h (fun v h' => v = none ∧ ∃ A', qRF cy h' y A' ra rk rv pa (oCd X.2.2.1 X.1) X.2.2.2.1 X.2.2.2.2 X.2.1 Rn R ad ∧ qFR h h' y od ra rk rv pa A A') (fun E h' => False) := by
  refine q_ofW (by decide) (by exact Nat.le_of_ble_eq_true rfl) ?_
  intro p e s m below meth c ls C hP hl
  have hx := C.1
  have hb := C.2.1
  have hS : va_S (qA N0) s.heap s.heap [] := va_S.rf
  have hl : lv_has ls 5 [(0, .ref y), (1, .int p0), (2, .int p1), (3, .long p2)] := hl
  have hM : qMR cy h ms mb mw ra rk rv S := hQ.2.2.1
  have hY0 := hY
  obtain ⟨hms, hmb, hmw, hmd, hrs, kdw, smw, dpw, rww, nw, fw, gw, hRw⟩ := id hM
  subst hmw
  have fr : ∀ b o, h b = some o → b ≠ y → qOf (ra 28) (rk 28) (rv 28) b → h b = some o := fun b o hb _ _ => hb
  have faw := hRw.2.2.2.1
  have fkw := hRw.2.2.2.2.1
  have fvw := hRw.2.2.2.2.2
  unfold qRb at faw
  unfold qJr at fkw fvw
  have hpc : qP1 (xCons a p2 k.1) = qP1 a + ((if k.1 = k.2.1 then 6 else 0) + (if a.1 = a.2.1 then 2 else 0)) ∧ qP2 (xCons a p2 k.1) = qP2 a + ((if k.1 = k.2.1 then 12 * k.2.1 else 0) + (if a.1 = a.2.1 then 4 * a.2.1 else 0)) := qPush1 hV
  have hg1 : qGk1 k = (if k.1 = k.2.1 then 6 else 0) := rfl
  have hg2 : qGk2 k = (if k.1 = k.2.1 then 12 * k.2.1 else 0) := rfl
  refine lv_aload_n hx hb dX8_push_0 rfl (lv_at hl 0 rfl) ?_
  refine lv_iload_n hx hb dX8_push_1 rfl (lv_at hl 1 rfl) ?_
  refine q_callS (rest := [.ref y]) C (c_X8_isSlot l D cy N0 h p0) kX8_isSlot g1246 g1247 hP hS (by first | decide | omega) hl.1 rfl (by simp [q_catrf, q_cati, q_catl, q_cata, q_catn]) (by first | decide | omega) dX8_push_2 (fun q ce E h' H1 locs1 hE => hE.elim) (fun v hh1 H locs hq hP hS => ?_)
  obtain ⟨rfl, ⟨rfl, sl9⟩ | ⟨rfl, sl9⟩⟩ := hq
  · obtain ⟨i, hi, rfl⟩ := sl9.of
    have ebi : bSl (nI i) = true := bSl_t sl9
    have eci : (nI i).toNatClampNeg = i := nI_clamp (by omega)
    refine lv_if_eq (tgt := 19) hx hb dX8_push_5 (by decide) (fun c5 => ?_) (fun c5 => ?_)
    · replace c5 : 1 = 0 := (nI_eq (a := 1) (b := 0) (by omega) (by omega)).mp c5
      exfalso; omega
    · replace c5 : ¬ 1 = 0 := fun zq => c5 ((nI_eq (a := 1) (b := 0) (by omega) (by omega)).mpr zq)
      refine lv_iload_n hx hb dX8_push_8 rfl (lv_at hl 2 rfl) ?_
      refine q_callS (rest := [.ref y]) C (c_X8_isSlot l D cy N0 h p1) kX8_isSlot g1246 g1247 hP hS (by first | decide | omega) hl.1 rfl (by simp [q_catrf, q_cati, q_catl, q_cata, q_catn]) (by first | decide | omega) dX8_push_9 (fun q ce E h' H1 locs1 hE => hE.elim) (fun v hh2 H locs hq hP hS => ?_)
      obtain ⟨rfl, ⟨rfl, sl9⟩ | ⟨rfl, sl9⟩⟩ := hq
      · obtain ⟨j, hj, rfl⟩ := sl9.of
        have ebj : bSl (nI j) = true := bSl_t sl9
        have ecj : (nI j).toNatClampNeg = j := nI_clamp (by omega)
        refine lv_if_eq (tgt := 19) hx hb dX8_push_12 (by decide) (fun c12 => ?_) (fun c12 => ?_)
        · replace c12 : 1 = 0 := (nI_eq (a := 1) (b := 0) (by omega) (by omega)).mp c12
          exfalso; omega
        · replace c12 : ¬ 1 = 0 := fun zq => c12 ((nI_eq (a := 1) (b := 0) (by omega) (by omega)).mpr zq)
          refine lv_iconst (v := nI 1) hx hb dX8_push_15 (by decide) ?_
          refine lv_goto (tgt := 20) hx hb dX8_push_16 (by decide) ?_
          refine lv_iconst (v := nI 1) hx hb dX8_push_20 (by decide) ?_
          refine q_callV (rest := []) C (c_X8_good1 l D cy N0 h y ms mb (ra 28) od pt fi re rc rs so ot cn la ro gr cd ca mv ct fau cs ce rn (nI 1) hY) kX8_good g1249 g1251 rfl gp41 g4 hP hS hY (by first | decide | omega) hl.1 rfl (by decide) (by first | decide | omega) dX8_push_21 (fun q ce E h' H1 locs1 hE => hE.elim) (fun v hh3 H locs hq hP hS => ?_)
          obtain ⟨rfl, rfl⟩ := hq
          replace hP : qP D N0 (qs h y (.inr (8, [.ref ms, .ref mb, .ref (ra 28), .int gr, .int 0, .int ca, .int mv, .ref od, .ref pt, .int ct, .int fau, .ref fi, .ref re, .int cs, .ref rc, .ref rs, .ref so, .ref ot, .ref cn, .ref la, .int ce, .ref ro, .int rn]))) H := hP
          obtain ⟨hv1, ehv1⟩ : ∃ z : qH, z = qs h y (.inr (8, [.ref ms, .ref mb, .ref (ra 28), .int gr, .int 0, .int ca, .int mv, .ref od, .ref pt, .int ct, .int fau, .ref fi, .ref re, .int cs, .ref rc, .ref rs, .ref so, .ref ot, .ref cn, .ref la, .int ce, .ref ro, .int rn])) := ⟨_, rfl⟩
          rw [← ehv1] at hP
          have khv1 : ∀ b o, b ≠ y → h b = some o → hv1 b = some o := by rw [ehv1]; exact fun b o nb hb => (qs_ne nb).trans hb
          replace hms := khv1 _ _ (fun q => by subst q; have := hms.symm.trans hY; first | cases this | simp at this) hms
          replace hmb := khv1 _ _ (fun q => by subst q; have := hmb.symm.trans hY; first | cases this | simp at this) hmb
          replace faw := khv1 _ _ (fun q => by have z9 := faw; rw [q] at z9; have := z9.symm.trans hY; first | cases this | simp at this) faw
          replace fkw := khv1 _ _ (fun q => by have z9 := fkw; rw [q] at z9; have := z9.symm.trans hY; first | cases this | simp at this) fkw
          replace fvw := khv1 _ _ (fun q => by have z9 := fvw; rw [q] at z9; have := z9.symm.trans hY; first | cases this | simp at this) fvw
          replace hY : hv1 y = some (.inr (8, [.ref ms, .ref mb, .ref (ra 28), .int gr, .int 0, .int ca, .int mv, .ref od, .ref pt, .int ct, .int fau, .ref fi, .ref re, .int cs, .ref rc, .ref rs, .ref so, .ref ot, .ref cn, .ref la, .int ce, .ref ro, .int rn])) := by rw [ehv1]; exact qs_self
          clear ehv1
          replace fr := fun b o hb n1 n2 => khv1 b o n1 (fr b o hb n1 n2)
          refine lv_if_eq (tgt := 42) hx hb dX8_push_24 (by decide) (fun c24 => ?_) (fun c24 => ?_)
          · replace c24 : 1 = 0 := (nI_eq (a := 1) (b := 0) (by omega) (by omega)).mp c24
            exfalso; omega
          · replace c24 : ¬ 1 = 0 := fun zq => c24 ((nI_eq (a := 1) (b := 0) (by omega) (by omega)).mpr zq)
            refine lv_aload_n hx hb dX8_push_27 rfl (lv_at hl 0 rfl) ?_
            refine lv_aload_n hx hb dX8_push_28 rfl (lv_at hl 0 rfl) ?_
            refine lv_iload_n hx hb dX8_push_29 rfl (lv_at hl 2 rfl) ?_
            refine lv_bipush (v := nI 65) hx hb dX8_push_30 (by decide) ?_
            obtain ⟨nj, rwj, Fj, Gj, hRj, hnj, hLj, hKj⟩ := hrs j (by omega)
            have apj := hRj.apart hRw (hmd.two (i := j) (j := 28) (by omega) (by omega) (by omega))
            replace hRj := hRj.keep2 (fun b o hb ho => fr b o ho (hRj.ney hY0 hb) (hb.elim (fun q => q ▸ apj.1) (fun hb => hb.elim (fun q => q ▸ apj.2.1) (fun q => q ▸ apj.2.2))))
            have faj := hRj.2.2.2.1
            have fkj := hRj.2.2.2.2.1
            have fvj := hRj.2.2.2.2.2
            unfold qRb at faj
            unfold qJr at fkj fvj
            refine q_callV (rest := [.ref y]) C (c_X8_holds l D cy N0 hv1 y ms ra rk rv j 65 _ _ _ _ _ _ _ _ hY rfl hms ⟨hRj.1, hRj.2.1, hRj.2.2.1, faj, fkj, fvj⟩ (by omega)) kX8_holds g1264 g1266 rfl gp42 g4 hP hS hY (by first | decide | omega) hl.1 rfl (by simp [q_catrf, q_cati, q_catl, q_cata, q_catn]) (by first | decide | omega) dX8_push_32 (fun q ce E h' H1 locs1 hE => hE.elim) (fun v hh4 H locs hq hP hS => ?_)
            obtain ⟨rfl, rfl⟩ := hq
            cases hoj : bHo (S j).1 65 with
            | false =>
              refine lv_iconst (v := nI 2) hx hb dX8_push_35 (by decide) ?_
              refine q_callV (rest := []) C (c_X8_good0 l D cy N0 hv1 y ms mb (ra 28) od pt fi re rc rs so ot cn la ro gr 0 ca mv ct fau cs ce rn (nI 2) hY) kX8_good g1249 g1251 rfl gp41 g4 hP hS hY (by first | decide | omega) hl.1 rfl (by decide) (by first | decide | omega) dX8_push_36 (fun q ce E h' H1 locs1 hE => hE.elim) (fun v hh5 H locs hq hP hS => ?_)
              obtain ⟨rfl, rfl⟩ := hq
              replace hP : qP D N0 (qs hv1 y (.inr (8, [.ref ms, .ref mb, .ref (ra 28), .int gr, .int (nI 2), .int ca, .int mv, .ref od, .ref pt, .int ct, .int fau, .ref fi, .ref re, .int cs, .ref rc, .ref rs, .ref so, .ref ot, .ref cn, .ref la, .int ce, .ref ro, .int rn]))) H := hP
              obtain ⟨hv2, ehv2⟩ : ∃ z : qH, z = qs hv1 y (.inr (8, [.ref ms, .ref mb, .ref (ra 28), .int gr, .int (nI 2), .int ca, .int mv, .ref od, .ref pt, .int ct, .int fau, .ref fi, .ref re, .int cs, .ref rc, .ref rs, .ref so, .ref ot, .ref cn, .ref la, .int ce, .ref ro, .int rn])) := ⟨_, rfl⟩
              rw [← ehv2] at hP
              have khv2 : ∀ b o, b ≠ y → hv1 b = some o → hv2 b = some o := by rw [ehv2]; exact fun b o nb hb => (qs_ne nb).trans hb
              replace hms := khv2 _ _ (fun q => by subst q; have := hms.symm.trans hY; first | cases this | simp at this) hms
              replace hmb := khv2 _ _ (fun q => by subst q; have := hmb.symm.trans hY; first | cases this | simp at this) hmb
              replace faw := khv2 _ _ (fun q => by have z9 := faw; rw [q] at z9; have := z9.symm.trans hY; first | cases this | simp at this) faw
              replace fkw := khv2 _ _ (fun q => by have z9 := fkw; rw [q] at z9; have := z9.symm.trans hY; first | cases this | simp at this) fkw
              replace fvw := khv2 _ _ (fun q => by have z9 := fvw; rw [q] at z9; have := z9.symm.trans hY; first | cases this | simp at this) fvw
              replace faj := khv2 _ _ (fun q => by have z9 := faj; rw [q] at z9; have := z9.symm.trans hY; first | cases this | simp at this) faj
              replace fkj := khv2 _ _ (fun q => by have z9 := fkj; rw [q] at z9; have := z9.symm.trans hY; first | cases this | simp at this) fkj
              replace fvj := khv2 _ _ (fun q => by have z9 := fvj; rw [q] at z9; have := z9.symm.trans hY; first | cases this | simp at this) fvj
              replace hY : hv2 y = some (.inr (8, [.ref ms, .ref mb, .ref (ra 28), .int gr, .int (nI 2), .int ca, .int mv, .ref od, .ref pt, .int ct, .int fau, .ref fi, .ref re, .int cs, .ref rc, .ref rs, .ref so, .ref ot, .ref cn, .ref la, .int ce, .ref ro, .int rn])) := by rw [ehv2]; exact qs_self
              clear ehv2
              replace fr := fun b o hb n1 n2 => khv2 b o n1 (fr b o hb n1 n2)
              refine lv_if_ne (tgt := 43) hx hb dX8_push_39 (by decide) (fun c39 => ?_) (fun c39 => ?_)
              · replace c39 : ¬ 0 = 0 := fun zq => c39 ((nI_eq (a := 0) (b := 0) (by omega) (by omega)).mpr zq)
                exfalso; omega
              · replace c39 : 0 = 0 := (nI_eq (a := 0) (b := 0) (by omega) (by omega)).mp c39
                have eX : X = (2, S, (ms, mb, ra 28, od, pt, ro, gr, cd, ca, mv, ct, fau, rn), a, k) := by rw [← hX]; unfold xs_push; rw [if_neg (by rw [ebi, ebj]; decide), ecj, if_pos hoj]
                obtain ⟨m8, f8⟩ := hM.fin0 hY0 (h' := hv2) ⟨hRw.1, hRw.2.1, hRw.2.2.1, faw, fkw, fvw⟩ fr
                obtain ⟨q8, r8⟩ := hQ.rowM (o' := oCd (ms, mb, ra 28, od, pt, ro, gr, cd, ca, mv, ct, fau, rn) 2) hY0 hY m8 f8 ⟨rfl, rfl, rfl, rfl, rfl, rfl⟩
                exact q_vret C hP hS ⟨rfl, A, by rw [eX]; exact q8, r8⟩ (by omega) dX8_push_42
            | true =>
              refine lv_iconst (v := nI 2) hx hb dX8_push_35 (by decide) ?_
              refine q_callV (rest := []) C (c_X8_good1 l D cy N0 hv1 y ms mb (ra 28) od pt fi re rc rs so ot cn la ro gr 0 ca mv ct fau cs ce rn (nI 2) hY) kX8_good g1249 g1251 rfl gp41 g4 hP hS hY (by first | decide | omega) hl.1 rfl (by decide) (by first | decide | omega) dX8_push_36 (fun q ce E h' H1 locs1 hE => hE.elim) (fun v hh6 H locs hq hP hS => ?_)
              obtain ⟨rfl, rfl⟩ := hq
              replace hP : qP D N0 (qs hv1 y (.inr (8, [.ref ms, .ref mb, .ref (ra 28), .int gr, .int 0, .int ca, .int mv, .ref od, .ref pt, .int ct, .int fau, .ref fi, .ref re, .int cs, .ref rc, .ref rs, .ref so, .ref ot, .ref cn, .ref la, .int ce, .ref ro, .int rn]))) H := hP
              obtain ⟨hv3, ehv3⟩ : ∃ z : qH, z = qs hv1 y (.inr (8, [.ref ms, .ref mb, .ref (ra 28), .int gr, .int 0, .int ca, .int mv, .ref od, .ref pt, .int ct, .int fau, .ref fi, .ref re, .int cs, .ref rc, .ref rs, .ref so, .ref ot, .ref cn, .ref la, .int ce, .ref ro, .int rn])) := ⟨_, rfl⟩
              rw [← ehv3] at hP
              have khv3 : ∀ b o, b ≠ y → hv1 b = some o → hv3 b = some o := by rw [ehv3]; exact fun b o nb hb => (qs_ne nb).trans hb
              replace hms := khv3 _ _ (fun q => by subst q; have := hms.symm.trans hY; first | cases this | simp at this) hms
              replace hmb := khv3 _ _ (fun q => by subst q; have := hmb.symm.trans hY; first | cases this | simp at this) hmb
              replace faw := khv3 _ _ (fun q => by have z9 := faw; rw [q] at z9; have := z9.symm.trans hY; first | cases this | simp at this) faw
              replace fkw := khv3 _ _ (fun q => by have z9 := fkw; rw [q] at z9; have := z9.symm.trans hY; first | cases this | simp at this) fkw
              replace fvw := khv3 _ _ (fun q => by have z9 := fvw; rw [q] at z9; have := z9.symm.trans hY; first | cases this | simp at this) fvw
              replace faj := khv3 _ _ (fun q => by have z9 := faj; rw [q] at z9; have := z9.symm.trans hY; first | cases this | simp at this) faj
              replace fkj := khv3 _ _ (fun q => by have z9 := fkj; rw [q] at z9; have := z9.symm.trans hY; first | cases this | simp at this) fkj
              replace fvj := khv3 _ _ (fun q => by have z9 := fvj; rw [q] at z9; have := z9.symm.trans hY; first | cases this | simp at this) fvj
              replace hY : hv3 y = some (.inr (8, [.ref ms, .ref mb, .ref (ra 28), .int gr, .int 0, .int ca, .int mv, .ref od, .ref pt, .int ct, .int fau, .ref fi, .ref re, .int cs, .ref rc, .ref rs, .ref so, .ref ot, .ref cn, .ref la, .int ce, .ref ro, .int rn])) := by rw [ehv3]; exact qs_self
              clear ehv3
              replace fr := fun b o hb n1 n2 => khv3 b o n1 (fr b o hb n1 n2)
              refine lv_if_ne (tgt := 43) hx hb dX8_push_39 (by decide) (fun c39 => ?_) (fun c39 => ?_)
              · replace c39 : ¬ 1 = 0 := fun zq => c39 ((nI_eq (a := 1) (b := 0) (by omega) (by omega)).mpr zq)
                refine lv_aload_n hx hb dX8_push_43 rfl (lv_at hl 0 rfl) ?_
                refine q_get C hP hY rfl inX8 0 (by decide) g1167 rfl dX8_push_44 ?_
                refine lv_iload_n hx hb dX8_push_47 rfl (lv_at hl 2 rfl) ?_
                refine q_aaldR C hP hms rfl (by omega) (by omega) rfl dX8_push_48 ?_
                refine lv_aload_n hx hb dX8_push_49 rfl (lv_at hl 0 rfl) ?_
                refine q_get C hP hY rfl inX8 2 (by decide) g1169 rfl dX8_push_50 ?_
                refine q_callS (rest := []) C (c_X8_copy l D cy N0 hv3 (ra j) (rk j) (rv j) (S j).1 (nI (S j).2.2.1) (nI (S j).2.2.2) rwj nj Fj Gj (ra 28) (rk 28) (rv 28) kdw smw dpw rww nw fw gw ⟨hRj.1, hRj.2.1, hRj.2.2.1, faj, fkj, fvj⟩ ⟨hRw.1, hRw.2.1, hRw.2.2.1, faw, fkw, fvw⟩ apj (by omega)) kX8_copy g1257 g1258 hP hS (by first | decide | omega) hl.1 rfl (by decide) (by first | decide | omega) dX8_push_53 (fun q ce E h' H1 locs1 hE => hE.elim) (fun v hh7 H locs hq hP hS => ?_)
                obtain ⟨rfl, rfl⟩ := hq
                obtain ⟨hv4, ehv4⟩ : ∃ z : qH, z = qRh cy hv3 (ra 28) (rk 28) (rv 28) ((S j).1) (nI nj) (nI (S j).2.2.1) (nI (S j).2.2.2) rwj (qCp Fj fw nj) (qCp Gj gw nj) := ⟨_, rfl⟩
                rw [← ehv4] at hP
                have r9 : qRw cy hv4 (ra 28) (rk 28) (rv 28) ((S j).1) (nI nj) (nI (S j).2.2.1) (nI (S j).2.2.2) rwj (qCp Fj fw nj) (qCp Gj gw nj) := by rw [ehv4]; exact qRw.new (cy := cy) (h := hv3) (kd := kdw) (n := (nI nw)) (sm := smw) (dp := dpw) (rw := rww) (f := fw) (g := gw) ⟨hRw.1, hRw.2.1, hRw.2.2.1, faw, fkw, fvw⟩
                have khv4 : ∀ b o, qOf (ra 28) (rk 28) (rv 28) b → hv3 b = some o → hv4 b = some o := by rw [ehv4]; exact fun b o q hb => (qRh_o q.1 q.2.1 q.2.2).trans hb
                replace hY := khv4 _ _ ⟨fun q => by rw [q] at hY; have := faw.symm.trans hY; first | cases this | simp at this, fun q => by rw [q] at hY; have := fkw.symm.trans hY; first | cases this | simp at this, fun q => by rw [q] at hY; have := fvw.symm.trans hY; first | cases this | simp at this⟩ hY
                replace hms := khv4 _ _ ⟨fun q => by rw [q] at hms; have := faw.symm.trans hms; first | cases this | simp at this, fun q => by rw [q] at hms; have := fkw.symm.trans hms; first | cases this | simp at this, fun q => by rw [q] at hms; have := fvw.symm.trans hms; first | cases this | simp at this⟩ hms
                replace hmb := khv4 _ _ ⟨fun q => by rw [q] at hmb; have := faw.symm.trans hmb; first | cases this | simp at this, fun q => by rw [q] at hmb; have := fkw.symm.trans hmb; first | cases this | simp at this, fun q => by rw [q] at hmb; have := fvw.symm.trans hmb; first | cases this | simp at this⟩ hmb
                replace faj := khv4 _ _ apj.1 faj
                replace fkj := khv4 _ _ apj.2.1 fkj
                replace fvj := khv4 _ _ apj.2.2 fvj
                replace fr := fun b o hb n1 n2 => khv4 b o n2 (fr b o hb n1 n2)
                clear faw fkw fvw
                have faw := r9.2.2.2.1
                have fkw := r9.2.2.2.2.1
                have fvw := r9.2.2.2.2.2
                unfold qRb at faw
                unfold qJr at fkw fvw
                clear r9 ehv4
                have lw : qLs ((S j).1) (qCp Fj fw nj) (qCp Gj gw nj) nj = (S j).2.1 := by rw [qLs_cp]; exact hLj.symm
                refine lv_aload_n hx hb dX8_push_56 rfl (lv_at hl 0 rfl) ?_
                refine q_get C hP hY rfl inX8 2 (by decide) g1169 rfl dX8_push_57 ?_
                refine q_get C hP faw rfl inX7 2 (by decide) g1142 rfl dX8_push_60 ?_
                refine lv_bipush (v := 6) hx hb dX8_push_63 (by decide) ?_
                refine lv_icmp_ne (tgt := 94) hx hb dX8_push_65 (by decide) (fun c65 => ?_) (fun c65 => ?_)
                · refine lv_aload_n hx hb dX8_push_94 rfl (lv_at hl 0 rfl) ?_
                  refine q_get C hP hY rfl inX8 2 (by decide) g1169 rfl dX8_push_95 ?_
                  refine lv_iconst (v := nI 0) hx hb dX8_push_98 (by decide) ?_
                  refine lv_lload_n hx hb dX8_push_99 rfl (lv_at hl 3 rfl) ?_
                  refine lv_lconst (v := 0) hx hb dX8_push_100 (by decide) ?_
                  refine q_callS (rest := []) C (c_X8_insert l D cy N0 hv4 (ra 28) (rk 28) (rv 28) ((S j).1) (nI (S j).2.2.1) (nI (S j).2.2.2) rwj nj (qCp Fj fw nj) (qCp Gj gw nj) 0 p2 0 ⟨hRw.1, hRw.2.1, hRw.2.2.1, faw, fkw, fvw⟩ (by omega) (by omega)) kX8_insert g1282 g1283 hP hS (by first | decide | omega) hl.1 rfl (by decide) (by first | decide | omega) dX8_push_101 (fun q ce E h' H1 locs1 hE => hE.elim) (fun v hh8 H locs hq hP hS => ?_)
                  obtain ⟨rfl, rfl⟩ := hq
                  obtain ⟨hv5, ehv5⟩ : ∃ z : qH, z = qRh cy hv4 (ra 28) (rk 28) (rv 28) ((S j).1) (nI (nj + 1)) (nI (S j).2.2.1) (nI (S j).2.2.2) rwj (vp_updL (qSh (qCp Fj fw nj) 0 nj) 0 p2) (vp_updL (qSh (qCp Gj gw nj) 0 nj) 0 0) := ⟨_, rfl⟩
                  rw [← ehv5] at hP
                  have r9 : qRw cy hv5 (ra 28) (rk 28) (rv 28) ((S j).1) (nI (nj + 1)) (nI (S j).2.2.1) (nI (S j).2.2.2) rwj (vp_updL (qSh (qCp Fj fw nj) 0 nj) 0 p2) (vp_updL (qSh (qCp Gj gw nj) 0 nj) 0 0) := by rw [ehv5]; exact qRw.new (cy := cy) (h := hv4) (kd := (S j).1) (n := (nI nj)) (sm := (nI (S j).2.2.1)) (dp := (nI (S j).2.2.2)) (rw := rwj) (f := (qCp Fj fw nj)) (g := (qCp Gj gw nj)) ⟨hRw.1, hRw.2.1, hRw.2.2.1, faw, fkw, fvw⟩
                  have khv5 : ∀ b o, qOf (ra 28) (rk 28) (rv 28) b → hv4 b = some o → hv5 b = some o := by rw [ehv5]; exact fun b o q hb => (qRh_o q.1 q.2.1 q.2.2).trans hb
                  replace hY := khv5 _ _ ⟨fun q => by rw [q] at hY; have := faw.symm.trans hY; first | cases this | simp at this, fun q => by rw [q] at hY; have := fkw.symm.trans hY; first | cases this | simp at this, fun q => by rw [q] at hY; have := fvw.symm.trans hY; first | cases this | simp at this⟩ hY
                  replace hms := khv5 _ _ ⟨fun q => by rw [q] at hms; have := faw.symm.trans hms; first | cases this | simp at this, fun q => by rw [q] at hms; have := fkw.symm.trans hms; first | cases this | simp at this, fun q => by rw [q] at hms; have := fvw.symm.trans hms; first | cases this | simp at this⟩ hms
                  replace hmb := khv5 _ _ ⟨fun q => by rw [q] at hmb; have := faw.symm.trans hmb; first | cases this | simp at this, fun q => by rw [q] at hmb; have := fkw.symm.trans hmb; first | cases this | simp at this, fun q => by rw [q] at hmb; have := fvw.symm.trans hmb; first | cases this | simp at this⟩ hmb
                  replace faj := khv5 _ _ apj.1 faj
                  replace fkj := khv5 _ _ apj.2.1 fkj
                  replace fvj := khv5 _ _ apj.2.2 fvj
                  replace fr := fun b o hb n1 n2 => khv5 b o n2 (fr b o hb n1 n2)
                  clear faw fkw fvw
                  have faw := r9.2.2.2.1
                  have fkw := r9.2.2.2.2.1
                  have fvw := r9.2.2.2.2.2
                  unfold qRb at faw
                  unfold qJr at fkw fvw
                  clear r9 ehv5
                  replace lw : qLs ((S j).1) (vp_updL (qSh (qCp Fj fw nj) 0 nj) 0 p2) (vp_updL (qSh (qCp Gj gw nj) 0 nj) 0 0) (nj + 1) = ((S j).2.1).take 0 ++ (p2, xV ((S j).1) 0) :: ((S j).2.1).drop 0 := by rw [qLs_ins (by omega), lw]
                  refine lv_aload_n hx hb dX8_push_104 rfl (lv_at hl 0 rfl) ?_
                  refine lv_aload_n hx hb dX8_push_105 rfl (lv_at hl 0 rfl) ?_
                  refine q_get C hP hY rfl inX8 2 (by decide) g1169 rfl dX8_push_106 ?_
                  refine q_get C hP faw rfl inX7 3 (by decide) g1143 rfl dX8_push_109 ?_
                  refine lv_sipush (v := nI 1000) hx hb dX8_push_112 (by decide) ?_
                  refine lv_icmp_gt (tgt := 122) hx hb dX8_push_115 (by decide) (fun c115 => ?_) (fun c115 => ?_)
                  · replace c115 : 1000 < (nj + 1) := (nI_ltI (a := 1000) (b := (nj + 1)) (by omega) (by omega)).mp c115
                    refine lv_iconst (v := nI 0) hx hb dX8_push_122 (by decide) ?_
                    refine lv_iconst (v := nI 3) hx hb dX8_push_123 (by decide) ?_
                    refine q_callV (rest := []) C (c_X8_good0 l D cy N0 hv5 y ms mb (ra 28) od pt fi re rc rs so ot cn la ro gr 0 ca mv ct fau cs ce rn (nI 3) hY) kX8_good g1249 g1251 rfl gp41 g4 hP hS hY (by first | decide | omega) hl.1 rfl (by decide) (by first | decide | omega) dX8_push_124 (fun q ce E h' H1 locs1 hE => hE.elim) (fun v hh9 H locs hq hP hS => ?_)
                    obtain ⟨rfl, rfl⟩ := hq
                    replace hP : qP D N0 (qs hv5 y (.inr (8, [.ref ms, .ref mb, .ref (ra 28), .int gr, .int (nI 3), .int ca, .int mv, .ref od, .ref pt, .int ct, .int fau, .ref fi, .ref re, .int cs, .ref rc, .ref rs, .ref so, .ref ot, .ref cn, .ref la, .int ce, .ref ro, .int rn]))) H := hP
                    obtain ⟨hv6, ehv6⟩ : ∃ z : qH, z = qs hv5 y (.inr (8, [.ref ms, .ref mb, .ref (ra 28), .int gr, .int (nI 3), .int ca, .int mv, .ref od, .ref pt, .int ct, .int fau, .ref fi, .ref re, .int cs, .ref rc, .ref rs, .ref so, .ref ot, .ref cn, .ref la, .int ce, .ref ro, .int rn])) := ⟨_, rfl⟩
                    rw [← ehv6] at hP
                    have khv6 : ∀ b o, b ≠ y → hv5 b = some o → hv6 b = some o := by rw [ehv6]; exact fun b o nb hb => (qs_ne nb).trans hb
                    replace hms := khv6 _ _ (fun q => by subst q; have := hms.symm.trans hY; first | cases this | simp at this) hms
                    replace hmb := khv6 _ _ (fun q => by subst q; have := hmb.symm.trans hY; first | cases this | simp at this) hmb
                    replace faw := khv6 _ _ (fun q => by have z9 := faw; rw [q] at z9; have := z9.symm.trans hY; first | cases this | simp at this) faw
                    replace fkw := khv6 _ _ (fun q => by have z9 := fkw; rw [q] at z9; have := z9.symm.trans hY; first | cases this | simp at this) fkw
                    replace fvw := khv6 _ _ (fun q => by have z9 := fvw; rw [q] at z9; have := z9.symm.trans hY; first | cases this | simp at this) fvw
                    replace faj := khv6 _ _ (fun q => by have z9 := faj; rw [q] at z9; have := z9.symm.trans hY; first | cases this | simp at this) faj
                    replace fkj := khv6 _ _ (fun q => by have z9 := fkj; rw [q] at z9; have := z9.symm.trans hY; first | cases this | simp at this) fkj
                    replace fvj := khv6 _ _ (fun q => by have z9 := fvj; rw [q] at z9; have := z9.symm.trans hY; first | cases this | simp at this) fvj
                    replace hY : hv6 y = some (.inr (8, [.ref ms, .ref mb, .ref (ra 28), .int gr, .int (nI 3), .int ca, .int mv, .ref od, .ref pt, .int ct, .int fau, .ref fi, .ref re, .int cs, .ref rc, .ref rs, .ref so, .ref ot, .ref cn, .ref la, .int ce, .ref ro, .int rn])) := by rw [ehv6]; exact qs_self
                    clear ehv6
                    replace fr := fun b o hb n1 n2 => khv6 b o n1 (fr b o hb n1 n2)
                    refine lv_if_ne (tgt := 131) hx hb dX8_push_127 (by decide) (fun c127 => ?_) (fun c127 => ?_)
                    · replace c127 : ¬ 0 = 0 := fun zq => c127 ((nI_eq (a := 0) (b := 0) (by omega) (by omega)).mpr zq)
                      exfalso; omega
                    · replace c127 : 0 = 0 := (nI_eq (a := 0) (b := 0) (by omega) (by omega)).mp c127
                      have eX : X = (3, S, (ms, mb, ra 28, od, pt, ro, gr, cd, ca, mv, ct, fau, rn), a, k) := by rw [← hX]; unfold xs_push; rw [if_neg (by rw [ebi, ebj]; decide), ecj, if_neg (by rw [hoj]; decide), if_neg c65, if_pos (by rw [hLj, qLs_len]; omega)]
                      obtain ⟨m8, f8⟩ := hM.fin0 hY0 (h' := hv6) ⟨hRw.1, hRw.2.1, hRw.2.2.1, faw, fkw, fvw⟩ fr
                      obtain ⟨q8, r8⟩ := hQ.rowM (o' := oCd (ms, mb, ra 28, od, pt, ro, gr, cd, ca, mv, ct, fau, rn) 3) hY0 hY m8 f8 ⟨rfl, rfl, rfl, rfl, rfl, rfl⟩
                      exact q_vret C hP hS ⟨rfl, A, by rw [eX]; exact q8, r8⟩ (by omega) dX8_push_130
                  · replace c115 : ¬ 1000 < (nj + 1) := fun zq => c115 ((nI_ltI (a := 1000) (b := (nj + 1)) (by omega) (by omega)).mpr zq)
                    refine lv_iconst (v := nI 1) hx hb dX8_push_118 (by decide) ?_
                    refine lv_goto (tgt := 123) hx hb dX8_push_119 (by decide) ?_
                    refine lv_iconst (v := nI 3) hx hb dX8_push_123 (by decide) ?_
                    refine q_callV (rest := []) C (c_X8_good1 l D cy N0 hv5 y ms mb (ra 28) od pt fi re rc rs so ot cn la ro gr 0 ca mv ct fau cs ce rn (nI 3) hY) kX8_good g1249 g1251 rfl gp41 g4 hP hS hY (by first | decide | omega) hl.1 rfl (by decide) (by first | decide | omega) dX8_push_124 (fun q ce E h' H1 locs1 hE => hE.elim) (fun v hh10 H locs hq hP hS => ?_)
                    obtain ⟨rfl, rfl⟩ := hq
                    replace hP : qP D N0 (qs hv5 y (.inr (8, [.ref ms, .ref mb, .ref (ra 28), .int gr, .int 0, .int ca, .int mv, .ref od, .ref pt, .int ct, .int fau, .ref fi, .ref re, .int cs, .ref rc, .ref rs, .ref so, .ref ot, .ref cn, .ref la, .int ce, .ref ro, .int rn]))) H := hP
                    obtain ⟨hv7, ehv7⟩ : ∃ z : qH, z = qs hv5 y (.inr (8, [.ref ms, .ref mb, .ref (ra 28), .int gr, .int 0, .int ca, .int mv, .ref od, .ref pt, .int ct, .int fau, .ref fi, .ref re, .int cs, .ref rc, .ref rs, .ref so, .ref ot, .ref cn, .ref la, .int ce, .ref ro, .int rn])) := ⟨_, rfl⟩
                    rw [← ehv7] at hP
                    have khv7 : ∀ b o, b ≠ y → hv5 b = some o → hv7 b = some o := by rw [ehv7]; exact fun b o nb hb => (qs_ne nb).trans hb
                    replace hms := khv7 _ _ (fun q => by subst q; have := hms.symm.trans hY; first | cases this | simp at this) hms
                    replace hmb := khv7 _ _ (fun q => by subst q; have := hmb.symm.trans hY; first | cases this | simp at this) hmb
                    replace faw := khv7 _ _ (fun q => by have z9 := faw; rw [q] at z9; have := z9.symm.trans hY; first | cases this | simp at this) faw
                    replace fkw := khv7 _ _ (fun q => by have z9 := fkw; rw [q] at z9; have := z9.symm.trans hY; first | cases this | simp at this) fkw
                    replace fvw := khv7 _ _ (fun q => by have z9 := fvw; rw [q] at z9; have := z9.symm.trans hY; first | cases this | simp at this) fvw
                    replace faj := khv7 _ _ (fun q => by have z9 := faj; rw [q] at z9; have := z9.symm.trans hY; first | cases this | simp at this) faj
                    replace fkj := khv7 _ _ (fun q => by have z9 := fkj; rw [q] at z9; have := z9.symm.trans hY; first | cases this | simp at this) fkj
                    replace fvj := khv7 _ _ (fun q => by have z9 := fvj; rw [q] at z9; have := z9.symm.trans hY; first | cases this | simp at this) fvj
                    replace hY : hv7 y = some (.inr (8, [.ref ms, .ref mb, .ref (ra 28), .int gr, .int 0, .int ca, .int mv, .ref od, .ref pt, .int ct, .int fau, .ref fi, .ref re, .int cs, .ref rc, .ref rs, .ref so, .ref ot, .ref cn, .ref la, .int ce, .ref ro, .int rn])) := by rw [ehv7]; exact qs_self
                    clear ehv7
                    replace fr := fun b o hb n1 n2 => khv7 b o n1 (fr b o hb n1 n2)
                    refine lv_if_ne (tgt := 131) hx hb dX8_push_127 (by decide) (fun c127 => ?_) (fun c127 => ?_)
                    · replace c127 : ¬ 1 = 0 := fun zq => c127 ((nI_eq (a := 1) (b := 0) (by omega) (by omega)).mpr zq)
                      refine lv_aload_n hx hb dX8_push_131 rfl (lv_at hl 0 rfl) ?_
                      refine lv_iload_n hx hb dX8_push_132 rfl (lv_at hl 1 rfl) ?_
                      refine lv_iconst (v := nI 0) hx hb dX8_push_133 (by decide) ?_
                      obtain ⟨ni, rwi, Fi, Gi, hRi, hni, hLi, hKi⟩ := hrs i (by omega)
                      have api := hRi.apart hRw (hmd.two (i := i) (j := 28) (by omega) (by omega) (by omega))
                      replace hRi := hRi.keep2 (fun b o hb ho => fr b o ho (hRi.ney hY0 hb) (hb.elim (fun q => q ▸ api.1) (fun hb => hb.elim (fun q => q ▸ api.2.1) (fun q => q ▸ api.2.2))))
                      have fai := hRi.2.2.2.1
                      have fki := hRi.2.2.2.2.1
                      have fvi := hRi.2.2.2.2.2
                      unfold qRb at fai
                      unfold qJr at fki fvi
                      refine q_callV (rest := []) C (c_X8_done l D cy N0 hv7 y ms mb od pt fi re rc rs so ot cn la ro gr 0 ca mv ct fau cs ce rn ra rk rv i (nI 0) (S j).1 (nI (S j).2.2.1) (nI (S j).2.2.2) rwj (nj + 1) (vp_updL (qSh (qCp Fj fw nj) 0 nj) 0 p2) (vp_updL (qSh (qCp Gj gw nj) 0 nj) 0 0) (S i).1 (nI (S i).2.2.1) (nI (S i).2.2.2) rwi ni Fi Gi hY hms hmd ⟨hRw.1, hRw.2.1, hRw.2.2.1, faw, fkw, fvw⟩ ⟨hRi.1, hRi.2.1, hRi.2.2.1, fai, fki, fvi⟩ (by omega) (by omega)) kX8_done g1293 g1295 rfl gp45 g4 hP hS hY (by first | decide | omega) hl.1 rfl (by decide) (by first | decide | omega) dX8_push_134 (fun q ce E h' H1 locs1 hE => hE.elim) (fun v hh11 H locs hq hP hS => ?_)
                      obtain ⟨rfl, hY9, hw9, hi9, fr9⟩ := hq
                      replace fr := fun b o hb n1 n2 n3 => fr9 b o (fr b o hb n1 n2) n1 n2 n3
                      rw [show mv + nI 0 = mv from Int32.add_zero _] at hY9
                      refine lv_pop hx hb dX8_push_137 rfl ?_
                      obtain ⟨m9, f9⟩ := hM.fin hY0 (i := i) (by omega) (s := ((S j).1, (((S j).2.1).take 0 ++ (p2, xV ((S j).1) 0) :: ((S j).2.1).drop 0), (S j).2.2.1, (S j).2.2.2)) ⟨(nj + 1), _, _, _, hi9, by omega, by rw [qLs_cp]; exact lw.symm, Or.inl rfl⟩ hw9 fr
                      have eX : X = (0, qU S i ((S j).1, (((S j).2.1).take 0 ++ (p2, xV ((S j).1) 0) :: ((S j).2.1).drop 0), (S j).2.2), (ms, mb, ra 28, od, pt, ro, gr, cd, ca, mv, ct, fau, rn), a, k) := by rw [← hX]; unfold xs_push; rw [if_neg (by rw [ebi, ebj]; decide), ecj, if_neg (by rw [hoj]; decide), if_neg c65, if_neg (by rw [hLj, qLs_len]; omega), eci]; rw [show (S j).1 = 0 from (by have := (hI j (by omega)).2.2; exact bHo_65 this hoj c65)]; rfl
                      obtain ⟨q9, r9⟩ := hQ.rowM (o' := (oCd (ms, mb, ra 28, od, pt, ro, gr, cd, ca, mv, ct, fau, rn) 0)) hY0 hY9 m9 f9 ⟨rfl, rfl, rfl, rfl, rfl, rfl⟩
                      exact q_vret C hP hS ⟨rfl, A, by rw [eX]; exact q9, r9⟩ (by omega) dX8_push_138
                    · replace c127 : 1 = 0 := (nI_eq (a := 1) (b := 0) (by omega) (by omega)).mp c127
                      exfalso; omega
                · have hs8 := hSt j (by omega) c65
                  have hL8 := (hV.L hB).1
                  have hLn := (hV.L hB).2
                  refine lv_aload_n hx hb dX8_push_68 rfl (lv_at hl 0 rfl) ?_
                  refine q_get C hP hY rfl inX8 2 (by decide) g1169 rfl dX8_push_69 ?_
                  have eX : X = (0, qU S i (6, (S j).2.1, a.1, (S j).2.2.2), (ms, mb, ra 28, od, pt, ro, gr, cd, ca, mv, ct, fau, rn), xCons a p2 k.1, xRdy k (S j).2.2.1) := by rw [← hX]; unfold xs_push; rw [if_neg (by rw [ebi, ebj]; decide), ecj, if_neg (by rw [hoj]; decide), if_pos c65, eci]
                  have eP1 : qP1 X.2.2.2.1 = qP1 (xCons a p2 k.1) := by rw [eX]
                  have eP2 : qP2 X.2.2.2.1 = qP2 (xCons a p2 k.1) := by rw [eX]
                  refine lv_aload_n hx hb dX8_push_72 rfl (lv_at hl 0 rfl) ?_
                  refine lv_lload_n hx hb dX8_push_73 rfl (lv_at hl 3 rfl) ?_
                  refine lv_aload_n hx hb dX8_push_74 rfl (lv_at hl 0 rfl) ?_
                  refine lv_aload_n hx hb dX8_push_75 rfl (lv_at hl 0 rfl) ?_
                  refine q_get C hP hY rfl inX8 2 (by decide) g1169 rfl dX8_push_76 ?_
                  refine q_get C hP faw rfl inX7 4 (by decide) g1144 rfl dX8_push_79 ?_
                  obtain ⟨m8, f8⟩ := hM.fin0 hY0 (h' := hv4) ⟨hRw.1, hRw.2.1, hRw.2.2.1, faw, fkw, fvw⟩ fr
                  obtain ⟨q8, r8⟩ := hQ.rowM (o' := (oCd (ms, mb, ra 28, od, pt, ro, gr, cd, ca, mv, ct, fau, rn) 0)) hY0 hY m8 f8 ⟨rfl, rfl, rfl, rfl, rfl, rfl⟩
                  refine q_callV (rest := [.long p2, .ref y, .ref (ra 28)]) C (w_ready l D cy N0 hv4 y A (oCd (ms, mb, ra 28, od, pt, ro, gr, cd, ca, mv, ct, fau, rn) 0) a k (S j).2.2.1 q8.1 q8.2.1 hL8) kX8_ready g1301 g1303 rfl gp46 g4 hP hS hY (by first | decide | omega) hl.1 rfl (by simp [q_catrf, q_cati, q_catl, q_cata, q_catn]) (by first | decide | omega) dX8_push_82 (fun q ce E h' H1 locs1 hE => hE.elim) (fun v hh12 H locs hq hP hS => ?_)
                  obtain ⟨rfl, A1, hS1, hF1, nA1⟩ := hq
                  have ap9 := q8.2.2.2.2.2
                  replace hms := hF1.1 _ _ hms (qne_arr (cy := cy) hms hY) ap9.two.1
                  replace hmb := hF1.1 _ _ hmb (qne_arr (cy := cy) hmb hY) ap9.two.2
                  replace faw := hF1.1 _ _ faw (fun z => by rw [z] at faw; have := faw.symm.trans hY; cases this) (ap9.row (i := 28) (by omega)).1
                  replace fkw := hF1.1 _ _ fkw (qne_arr (cy := cy) fkw hY) (ap9.row (i := 28) (by omega)).2.1
                  replace fvw := hF1.1 _ _ fvw (qne_arr (cy := cy) fvw hY) (ap9.row (i := 28) (by omega)).2.2
                  replace faj := hF1.1 _ _ faj (fun z => by rw [z] at faj; have := faj.symm.trans hY; cases this) (ap9.row (i := j) (by omega)).1
                  replace fkj := hF1.1 _ _ fkj (qne_arr (cy := cy) fkj hY) (ap9.row (i := j) (by omega)).2.1
                  replace fvj := hF1.1 _ _ fvj (qne_arr (cy := cy) fvj hY) (ap9.row (i := j) (by omega)).2.2
                  obtain ⟨q7a, r7a⟩ := q8.str hS1 hF1 nA1 ⟨rfl, rfl, rfl, rfl, rfl, rfl⟩
                  have rta := r8.tr q8 rfl r7a
                  clear hY
                  obtain ⟨fja, rja, rcja, rsja, soja, otja, cnja, laja, hY⟩ := q7a.1.yo2
                  unfold qYo at hY
                  refine q_callV (rest := [.ref (ra 28)]) C (w_cons l D cy N0 hh12 y A1 (oCd (ms, mb, ra 28, od, pt, ro, gr, cd, ca, mv, ct, fau, rn) 0) a (xRdy k (S j).2.2.1) p2 k.1 q7a.1 hL8.1) kX8_cons g1315 g1317 rfl gp48 g4 hP hS hY (by first | decide | omega) hl.1 rfl (by simp [q_catrf, q_cati, q_catl, q_cata, q_catn]) (by first | decide | omega) dX8_push_85 (fun q ce E h' H1 locs1 hE => hE.elim) (fun v hh13 H locs hq hP hS => ?_)
                  obtain ⟨rfl, A2, hS2, hF2⟩ := hq
                  have nA2 : ¬ A2 y := fun z => (hF2.2.2 y z).elim nA1 (fun q => q _ hY)
                  have ap9 := q7a.2.2.2.2.2
                  replace hms := hF2.1 _ _ hms (qne_arr (cy := cy) hms hY) ap9.two.1
                  replace hmb := hF2.1 _ _ hmb (qne_arr (cy := cy) hmb hY) ap9.two.2
                  replace faw := hF2.1 _ _ faw (fun z => by rw [z] at faw; have := faw.symm.trans hY; cases this) (ap9.row (i := 28) (by omega)).1
                  replace fkw := hF2.1 _ _ fkw (qne_arr (cy := cy) fkw hY) (ap9.row (i := 28) (by omega)).2.1
                  replace fvw := hF2.1 _ _ fvw (qne_arr (cy := cy) fvw hY) (ap9.row (i := 28) (by omega)).2.2
                  replace faj := hF2.1 _ _ faj (fun z => by rw [z] at faj; have := faj.symm.trans hY; cases this) (ap9.row (i := j) (by omega)).1
                  replace fkj := hF2.1 _ _ fkj (qne_arr (cy := cy) fkj hY) (ap9.row (i := j) (by omega)).2.1
                  replace fvj := hF2.1 _ _ fvj (qne_arr (cy := cy) fvj hY) (ap9.row (i := j) (by omega)).2.2
                  obtain ⟨q7b, r7b⟩ := q7a.str hS2 hF2 nA2 ⟨rfl, rfl, rfl, rfl, rfl, rfl⟩
                  have rtb := rta.tr q7a rfl r7b
                  clear hY
                  obtain ⟨fjb, rjb, rcjb, rsjb, sojb, otjb, cnjb, lajb, hY⟩ := q7b.1.yo2
                  unfold qYo at hY
                  have hY0 := hY
                  have hM := q7b.2.2.1
                  have hrs := hM.2.2.2.2.1
                  replace hRw : qRw cy hh13 (ra 28) (rk 28) (rv 28) ((S j).1) (nI nj) (nI (S j).2.2.1) (nI (S j).2.2.2) rwj (qCp Fj fw nj) (qCp Gj gw nj) := ⟨hRw.1, hRw.2.1, hRw.2.2.1, faw, fkw, fvw⟩
                  replace fr : ∀ b o, hh13 b = some o → b ≠ y → qOf (ra 28) (rk 28) (rv 28) b → hh13 b = some o := fun b o hb _ _ => hb
                  refine q_put C hP hS faw rfl inX7 tyX7 tyX7_ok nmX7 4 (by decide) g1144 rfl rfl rfl (Nat.le_of_ble_eq_true rfl) dX8_push_88 (fun H locs hP hS => ?_)
                  replace hP : qP D N0 (qs hh13 (ra 28) (.inr (7, [.ref (rk 28), .ref (rv 28), .int (S j).1, .int (nI nj), .int (nI a.1), .int (nI (S j).2.2.2), .int rwj]))) H := hP
                  obtain ⟨hv8, ehv8⟩ : ∃ z : qH, z = qs hh13 (ra 28) (.inr (7, [.ref (rk 28), .ref (rv 28), .int (S j).1, .int (nI nj), .int (nI a.1), .int (nI (S j).2.2.2), .int rwj])) := ⟨_, rfl⟩
                  rw [← ehv8] at hP
                  have khv8 : ∀ b o, b ≠ (ra 28) → hh13 b = some o → hv8 b = some o := by rw [ehv8]; exact fun b o nb hb => (qs_ne nb).trans hb
                  replace hY := khv8 _ _ (fun q => by have z9 := hY; rw [q] at z9; have := z9.symm.trans faw; first | cases this | simp at this) hY
                  replace hms := khv8 _ _ (fun q => by have z9 := hms; rw [q] at z9; have := z9.symm.trans faw; first | cases this | simp at this) hms
                  replace hmb := khv8 _ _ (fun q => by have z9 := hmb; rw [q] at z9; have := z9.symm.trans faw; first | cases this | simp at this) hmb
                  replace fkw := khv8 _ _ (fun q => by have z9 := fkw; rw [q] at z9; have := z9.symm.trans faw; first | cases this | simp at this) fkw
                  replace fvw := khv8 _ _ (fun q => by have z9 := fvw; rw [q] at z9; have := z9.symm.trans faw; first | cases this | simp at this) fvw
                  replace faj := khv8 _ _ apj.1.1 faj
                  replace fkj := khv8 _ _ apj.2.1.1 fkj
                  replace fvj := khv8 _ _ apj.2.2.1 fvj
                  replace faw : hv8 (ra 28) = some (.inr (7, [.ref (rk 28), .ref (rv 28), .int (S j).1, .int (nI nj), .int (nI a.1), .int (nI (S j).2.2.2), .int rwj])) := by rw [ehv8]; exact qs_self
                  clear ehv8
                  replace fr := fun b o hb n1 n2 => khv8 b o n2.1 (fr b o hb n1 n2)
                  refine lv_goto (tgt := 131) hx hb dX8_push_91 (by decide) ?_
                  refine lv_aload_n hx hb dX8_push_131 rfl (lv_at hl 0 rfl) ?_
                  refine lv_iload_n hx hb dX8_push_132 rfl (lv_at hl 1 rfl) ?_
                  refine lv_iconst (v := nI 0) hx hb dX8_push_133 (by decide) ?_
                  obtain ⟨ni, rwi, Fi, Gi, hRi, hni, hLi, hKi⟩ := hrs i (by omega)
                  have api := hRi.apart hRw (hmd.two (i := i) (j := 28) (by omega) (by omega) (by omega))
                  replace hRi := hRi.keep2 (fun b o hb ho => fr b o ho (hRi.ney hY0 hb) (hb.elim (fun q => q ▸ api.1) (fun hb => hb.elim (fun q => q ▸ api.2.1) (fun q => q ▸ api.2.2))))
                  have fai := hRi.2.2.2.1
                  have fki := hRi.2.2.2.2.1
                  have fvi := hRi.2.2.2.2.2
                  unfold qRb at fai
                  unfold qJr at fki fvi
                  refine q_callV (rest := []) C (c_X8_done l D cy N0 hv8 y ms mb od pt fjb rjb rcjb rsjb sojb otjb cnjb lajb ro gr 0 ca mv ct fau (nI (xCons a p2 k.1).1) (nI (xRdy k (S j).2.2.1).1) rn ra rk rv i (nI 0) (S j).1 (nI a.1) (nI (S j).2.2.2) rwj nj (qCp Fj fw nj) (qCp Gj gw nj) (S i).1 (nI (S i).2.2.1) (nI (S i).2.2.2) rwi ni Fi Gi hY hms hmd ⟨hRw.1, hRw.2.1, hRw.2.2.1, faw, fkw, fvw⟩ ⟨hRi.1, hRi.2.1, hRi.2.2.1, fai, fki, fvi⟩ (by omega) (by omega)) kX8_done g1293 g1295 rfl gp45 g4 hP hS hY (by first | decide | omega) hl.1 rfl (by decide) (by first | decide | omega) dX8_push_134 (fun q ce E h' H1 locs1 hE => hE.elim) (fun v hh14 H locs hq hP hS => ?_)
                  obtain ⟨rfl, hY9, hw9, hi9, fr9⟩ := hq
                  replace fr := fun b o hb n1 n2 n3 => fr9 b o (fr b o hb n1 n2) n1 n2 n3
                  rw [show mv + nI 0 = mv from Int32.add_zero _] at hY9
                  refine lv_pop hx hb dX8_push_137 rfl ?_
                  obtain ⟨m9, f9⟩ := hM.fin hY0 (i := i) (by omega) (s := ((S j).1, (S j).2.1, a.1, (S j).2.2.2)) ⟨nj, _, _, _, hi9, by omega, by rw [qLs_cp]; exact lw.symm, Or.inl rfl⟩ hw9 fr
                  obtain ⟨q9, r9⟩ := q7b.rowM (o' := (oCd (ms, mb, ra 28, od, pt, ro, gr, cd, ca, mv, ct, fau, rn) 0)) hY0 hY9 m9 f9 ⟨rfl, rfl, rfl, rfl, rfl, rfl⟩
                  rw [c65] at q9
                  exact q_vret C hP hS ⟨rfl, A2, by rw [eX]; exact q9, rtb.tr q7b rfl r9⟩ (by omega) dX8_push_138
              · replace c39 : 1 = 0 := (nI_eq (a := 1) (b := 0) (by omega) (by omega)).mp c39
                exfalso; omega
      · have ebj : bSl p1 = false := bSl_f sl9
        refine lv_if_eq (tgt := 19) hx hb dX8_push_12 (by decide) (fun c12 => ?_) (fun c12 => ?_)
        · replace c12 : 0 = 0 := (nI_eq (a := 0) (b := 0) (by omega) (by omega)).mp c12
          refine lv_iconst (v := nI 0) hx hb dX8_push_19 (by decide) ?_
          refine lv_iconst (v := nI 1) hx hb dX8_push_20 (by decide) ?_
          refine q_callV (rest := []) C (c_X8_good0 l D cy N0 h y ms mb (ra 28) od pt fi re rc rs so ot cn la ro gr cd ca mv ct fau cs ce rn (nI 1) hY) kX8_good g1249 g1251 rfl gp41 g4 hP hS hY (by first | decide | omega) hl.1 rfl (by decide) (by first | decide | omega) dX8_push_21 (fun q ce E h' H1 locs1 hE => hE.elim) (fun v hh15 H locs hq hP hS => ?_)
          obtain ⟨rfl, rfl⟩ := hq
          replace hP : qP D N0 (qs h y (.inr (8, [.ref ms, .ref mb, .ref (ra 28), .int gr, .int (nI 1), .int ca, .int mv, .ref od, .ref pt, .int ct, .int fau, .ref fi, .ref re, .int cs, .ref rc, .ref rs, .ref so, .ref ot, .ref cn, .ref la, .int ce, .ref ro, .int rn]))) H := hP
          obtain ⟨hv9, ehv9⟩ : ∃ z : qH, z = qs h y (.inr (8, [.ref ms, .ref mb, .ref (ra 28), .int gr, .int (nI 1), .int ca, .int mv, .ref od, .ref pt, .int ct, .int fau, .ref fi, .ref re, .int cs, .ref rc, .ref rs, .ref so, .ref ot, .ref cn, .ref la, .int ce, .ref ro, .int rn])) := ⟨_, rfl⟩
          rw [← ehv9] at hP
          have khv9 : ∀ b o, b ≠ y → h b = some o → hv9 b = some o := by rw [ehv9]; exact fun b o nb hb => (qs_ne nb).trans hb
          replace hms := khv9 _ _ (fun q => by subst q; have := hms.symm.trans hY; first | cases this | simp at this) hms
          replace hmb := khv9 _ _ (fun q => by subst q; have := hmb.symm.trans hY; first | cases this | simp at this) hmb
          replace faw := khv9 _ _ (fun q => by have z9 := faw; rw [q] at z9; have := z9.symm.trans hY; first | cases this | simp at this) faw
          replace fkw := khv9 _ _ (fun q => by have z9 := fkw; rw [q] at z9; have := z9.symm.trans hY; first | cases this | simp at this) fkw
          replace fvw := khv9 _ _ (fun q => by have z9 := fvw; rw [q] at z9; have := z9.symm.trans hY; first | cases this | simp at this) fvw
          replace hY : hv9 y = some (.inr (8, [.ref ms, .ref mb, .ref (ra 28), .int gr, .int (nI 1), .int ca, .int mv, .ref od, .ref pt, .int ct, .int fau, .ref fi, .ref re, .int cs, .ref rc, .ref rs, .ref so, .ref ot, .ref cn, .ref la, .int ce, .ref ro, .int rn])) := by rw [ehv9]; exact qs_self
          clear ehv9
          replace fr := fun b o hb n1 n2 => khv9 b o n1 (fr b o hb n1 n2)
          refine lv_if_eq (tgt := 42) hx hb dX8_push_24 (by decide) (fun c24 => ?_) (fun c24 => ?_)
          · replace c24 : 0 = 0 := (nI_eq (a := 0) (b := 0) (by omega) (by omega)).mp c24
            have eX : X = (1, S, (ms, mb, ra 28, od, pt, ro, gr, cd, ca, mv, ct, fau, rn), a, k) := by rw [← hX]; unfold xs_push; rw [if_pos (by simp [ebi, ebj])]
            obtain ⟨m8, f8⟩ := hM.fin0 hY0 (h' := hv9) ⟨hRw.1, hRw.2.1, hRw.2.2.1, faw, fkw, fvw⟩ fr
            obtain ⟨q8, r8⟩ := hQ.rowM (o' := oCd (ms, mb, ra 28, od, pt, ro, gr, cd, ca, mv, ct, fau, rn) 1) hY0 hY m8 f8 ⟨rfl, rfl, rfl, rfl, rfl, rfl⟩
            exact q_vret C hP hS ⟨rfl, A, by rw [eX]; exact q8, r8⟩ (by omega) dX8_push_42
          · replace c24 : ¬ 0 = 0 := fun zq => c24 ((nI_eq (a := 0) (b := 0) (by omega) (by omega)).mpr zq)
            exfalso; omega
        · replace c12 : ¬ 0 = 0 := fun zq => c12 ((nI_eq (a := 0) (b := 0) (by omega) (by omega)).mpr zq)
          exfalso; omega
  · have ebi : bSl p0 = false := bSl_f sl9
    refine lv_if_eq (tgt := 19) hx hb dX8_push_5 (by decide) (fun c5 => ?_) (fun c5 => ?_)
    · replace c5 : 0 = 0 := (nI_eq (a := 0) (b := 0) (by omega) (by omega)).mp c5
      refine lv_iconst (v := nI 0) hx hb dX8_push_19 (by decide) ?_
      refine lv_iconst (v := nI 1) hx hb dX8_push_20 (by decide) ?_
      refine q_callV (rest := []) C (c_X8_good0 l D cy N0 h y ms mb (ra 28) od pt fi re rc rs so ot cn la ro gr cd ca mv ct fau cs ce rn (nI 1) hY) kX8_good g1249 g1251 rfl gp41 g4 hP hS hY (by first | decide | omega) hl.1 rfl (by decide) (by first | decide | omega) dX8_push_21 (fun q ce E h' H1 locs1 hE => hE.elim) (fun v hh16 H locs hq hP hS => ?_)
      obtain ⟨rfl, rfl⟩ := hq
      replace hP : qP D N0 (qs h y (.inr (8, [.ref ms, .ref mb, .ref (ra 28), .int gr, .int (nI 1), .int ca, .int mv, .ref od, .ref pt, .int ct, .int fau, .ref fi, .ref re, .int cs, .ref rc, .ref rs, .ref so, .ref ot, .ref cn, .ref la, .int ce, .ref ro, .int rn]))) H := hP
      obtain ⟨hv10, ehv10⟩ : ∃ z : qH, z = qs h y (.inr (8, [.ref ms, .ref mb, .ref (ra 28), .int gr, .int (nI 1), .int ca, .int mv, .ref od, .ref pt, .int ct, .int fau, .ref fi, .ref re, .int cs, .ref rc, .ref rs, .ref so, .ref ot, .ref cn, .ref la, .int ce, .ref ro, .int rn])) := ⟨_, rfl⟩
      rw [← ehv10] at hP
      have khv10 : ∀ b o, b ≠ y → h b = some o → hv10 b = some o := by rw [ehv10]; exact fun b o nb hb => (qs_ne nb).trans hb
      replace hms := khv10 _ _ (fun q => by subst q; have := hms.symm.trans hY; first | cases this | simp at this) hms
      replace hmb := khv10 _ _ (fun q => by subst q; have := hmb.symm.trans hY; first | cases this | simp at this) hmb
      replace faw := khv10 _ _ (fun q => by have z9 := faw; rw [q] at z9; have := z9.symm.trans hY; first | cases this | simp at this) faw
      replace fkw := khv10 _ _ (fun q => by have z9 := fkw; rw [q] at z9; have := z9.symm.trans hY; first | cases this | simp at this) fkw
      replace fvw := khv10 _ _ (fun q => by have z9 := fvw; rw [q] at z9; have := z9.symm.trans hY; first | cases this | simp at this) fvw
      replace hY : hv10 y = some (.inr (8, [.ref ms, .ref mb, .ref (ra 28), .int gr, .int (nI 1), .int ca, .int mv, .ref od, .ref pt, .int ct, .int fau, .ref fi, .ref re, .int cs, .ref rc, .ref rs, .ref so, .ref ot, .ref cn, .ref la, .int ce, .ref ro, .int rn])) := by rw [ehv10]; exact qs_self
      clear ehv10
      replace fr := fun b o hb n1 n2 => khv10 b o n1 (fr b o hb n1 n2)
      refine lv_if_eq (tgt := 42) hx hb dX8_push_24 (by decide) (fun c24 => ?_) (fun c24 => ?_)
      · replace c24 : 0 = 0 := (nI_eq (a := 0) (b := 0) (by omega) (by omega)).mp c24
        have eX : X = (1, S, (ms, mb, ra 28, od, pt, ro, gr, cd, ca, mv, ct, fau, rn), a, k) := by rw [← hX]; unfold xs_push; rw [if_pos (by simp [ebi])]
        obtain ⟨m8, f8⟩ := hM.fin0 hY0 (h' := hv10) ⟨hRw.1, hRw.2.1, hRw.2.2.1, faw, fkw, fvw⟩ fr
        obtain ⟨q8, r8⟩ := hQ.rowM (o' := oCd (ms, mb, ra 28, od, pt, ro, gr, cd, ca, mv, ct, fau, rn) 1) hY0 hY m8 f8 ⟨rfl, rfl, rfl, rfl, rfl, rfl⟩
        exact q_vret C hP hS ⟨rfl, A, by rw [eX]; exact q8, r8⟩ (by omega) dX8_push_42
      · replace c24 : ¬ 0 = 0 := fun zq => c24 ((nI_eq (a := 0) (b := 0) (by omega) (by omega)).mpr zq)
        exfalso; omega
    · replace c5 : ¬ 0 = 0 := fun zq => c5 ((nI_eq (a := 0) (b := 0) (by omega) (by omega)).mpr zq)
      exfalso; omega
