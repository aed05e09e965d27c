theorem qLs_succ {kd : Int32} {f g : Nat → Int64} {n : Nat} : qLs kd f g (n + 1) = qLs kd f g n ++ [(f n, xV kd (g n))] := by
  rw [qLs_def, List.range_succ, List.map_append]; rfl
theorem q_dec1 (t : Nat) : nI t + Int32.ofInt (-1) = nI t - nI 1 := by
  have e : Int32.ofInt (-1) = -(nI 1) := by decide
  rw [e, ← Int32.sub_eq_add_neg]
def xRg (a b : Int64) (L : qKV) : qKV := L.filter (fun p => decide (a.toInt ≤ p.1.toInt ∧ p.1.toInt < b.toInt))
def xr_range (S : Nat → qSlot) (i j : Nat) (a b : Int64) (m : Nat) : Int32 × (Nat → qSlot) × Int32 × Nat := if 20000 < m + (S j).2.1.length then (3, S, 0, m) else (0, qU S i ((S j).1, xRg a b (S j).2.1, (S j).2.2), nI (xRg a b (S j).2.1).length, m + (S j).2.1.length)
def xs_range (S : Nat → qSlot) (p0 p1 : Int32) (a b : Int64) (m : Nat) : Int32 × (Nat → qSlot) × Int32 × Nat := if bSl p0 = false ∨ bSl p1 = false then (1, S, 0, m) else if bHo (S p1.toNatClampNeg).1 8 = false then (2, S, 0, m) else xr_range S p0.toNatClampNeg p1.toNatClampNeg a b m
def xMt (L2 : qKV) (z : Int32) (L : qKV) : qKV := L.filter (fun p => decide (¬ (if xHas L2 p.1 = true then (1 : Int32) else 0) = z))
def xr_meet (S : Nat → qSlot) (i j k : Nat) (z : Int32) (m : Nat) : Int32 × (Nat → qSlot) × Int32 × Nat := if 20000 < m + (S j).2.1.length then (3, S, 0, m) else (0, qU S i ((S j).1, xMt (S k).2.1 z (S j).2.1, (S j).2.2), nI (xMt (S k).2.1 z (S j).2.1).length, m + (S j).2.1.length)
def xs_meet (S : Nat → qSlot) (p0 p1 p2 z : Int32) (m : Nat) : Int32 × (Nat → qSlot) × Int32 × Nat := if bSl p0 = false ∨ bSl p1 = false ∨ bSl p2 = false then (1, S, 0, m) else if bHo (S p1.toNatClampNeg).1 4 = false ∨ bHo (S p2.toNatClampNeg).1 4 = false then (2, S, 0, m) else xr_meet S p0.toNatClampNeg p1.toNatClampNeg p2.toNatClampNeg z m
theorem dX8_range_44 : decode cX8_range 44 = .ok (.aload_n 0, 1) := by decide +kernel
theorem dX8_range_45 : decode cX8_range 45 = .ok (.getfield 9, 3) := by decide +kernel
theorem dX8_range_48 : decode cX8_range 48 = .ok (.iload_n 2, 1) := by decide +kernel
theorem dX8_range_49 : decode cX8_range 49 = .ok (.aaload, 1) := by decide +kernel
theorem dX8_range_50 : decode cX8_range 50 = .ok (.astore 7, 2) := by decide +kernel
theorem dX8_range_52 : decode cX8_range 52 = .ok (.aload_n 0, 1) := by decide +kernel
theorem dX8_range_53 : decode cX8_range 53 = .ok (.aload_n 0, 1) := by decide +kernel
theorem dX8_range_54 : decode cX8_range 54 = .ok (.iconst 0, 1) := by decide +kernel
theorem dX8_range_55 : decode cX8_range 55 = .ok (.aload 7, 2) := by decide +kernel
theorem dX8_range_57 : decode cX8_range 57 = .ok (.getfield 78, 3) := by decide +kernel
theorem dX8_range_60 : decode cX8_range 60 = .ok (.invokevirtual 165, 3) := by decide +kernel
theorem dX8_range_63 : decode cX8_range 63 = .ok (.iconst 3, 1) := by decide +kernel
theorem dX8_range_64 : decode cX8_range 64 = .ok (.invokevirtual 100, 3) := by decide +kernel
theorem dX8_range_67 : decode cX8_range 67 = .ok (.ifCond .ne 5, 3) := by decide +kernel
theorem dX8_range_70 : decode cX8_range 70 = .ok (.iconst 0, 1) := by decide +kernel
theorem dX8_range_71 : decode cX8_range 71 = .ok (.ireturn, 1) := by decide +kernel
theorem dX8_range_72 : decode cX8_range 72 = .ok (.aload 7, 2) := by decide +kernel
theorem dX8_range_74 : decode cX8_range 74 = .ok (.getfield 78, 3) := by decide +kernel
theorem dX8_range_77 : decode cX8_range 77 = .ok (.istore 8, 2) := by decide +kernel
theorem dX8_range_79 : decode cX8_range 79 = .ok (.aload 7, 2) := by decide +kernel
theorem dX8_range_81 : decode cX8_range 81 = .ok (.aload_n 0, 1) := by decide +kernel
theorem dX8_range_82 : decode cX8_range 82 = .ok (.getfield 19, 3) := by decide +kernel
theorem dX8_range_85 : decode cX8_range 85 = .ok (.invokestatic 104, 3) := by decide +kernel
theorem dX8_range_88 : decode cX8_range 88 = .ok (.aload_n 0, 1) := by decide +kernel
theorem dX8_range_89 : decode cX8_range 89 = .ok (.getfield 19, 3) := by decide +kernel
theorem dX8_range_92 : decode cX8_range 92 = .ok (.iconst 0, 1) := by decide +kernel
theorem dX8_range_93 : decode cX8_range 93 = .ok (.putfield 78, 3) := by decide +kernel
theorem dX8_range_96 : decode cX8_range 96 = .ok (.iconst 0, 1) := by decide +kernel
theorem dX8_range_97 : decode cX8_range 97 = .ok (.istore 9, 2) := by decide +kernel
theorem dX8_range_99 : decode cX8_range 99 = .ok (.iload 9, 2) := by decide +kernel
theorem dX8_range_101 : decode cX8_range 101 = .ok (.iload 8, 2) := by decide +kernel
theorem dX8_range_103 : decode cX8_range 103 = .ok (.if_icmp .ge 66, 3) := by decide +kernel
theorem dX8_range_106 : decode cX8_range 106 = .ok (.aload 7, 2) := by decide +kernel
theorem dX8_range_108 : decode cX8_range 108 = .ok (.getfield 90, 3) := by decide +kernel
theorem dX8_range_111 : decode cX8_range 111 = .ok (.iload 9, 2) := by decide +kernel
theorem dX8_range_113 : decode cX8_range 113 = .ok (.laload, 1) := by decide +kernel
theorem dX8_range_114 : decode cX8_range 114 = .ok (.lload_n 3, 1) := by decide +kernel
theorem dX8_range_115 : decode cX8_range 115 = .ok (.lcmp, 1) := by decide +kernel
theorem dX8_range_116 : decode cX8_range 116 = .ok (.ifCond .lt 47, 3) := by decide +kernel
theorem dX8_range_119 : decode cX8_range 119 = .ok (.aload 7, 2) := by decide +kernel
theorem dX8_range_121 : decode cX8_range 121 = .ok (.getfield 90, 3) := by decide +kernel
theorem dX8_range_124 : decode cX8_range 124 = .ok (.iload 9, 2) := by decide +kernel
theorem dX8_range_126 : decode cX8_range 126 = .ok (.laload, 1) := by decide +kernel
theorem dX8_range_127 : decode cX8_range 127 = .ok (.lload 5, 2) := by decide +kernel
theorem dX8_range_129 : decode cX8_range 129 = .ok (.lcmp, 1) := by decide +kernel
theorem dX8_range_130 : decode cX8_range 130 = .ok (.ifCond .ge 33, 3) := by decide +kernel
theorem dX8_range_133 : decode cX8_range 133 = .ok (.aload_n 0, 1) := by decide +kernel
theorem dX8_range_134 : decode cX8_range 134 = .ok (.getfield 19, 3) := by decide +kernel
theorem dX8_range_137 : decode cX8_range 137 = .ok (.aload_n 0, 1) := by decide +kernel
theorem dX8_range_138 : decode cX8_range 138 = .ok (.getfield 19, 3) := by decide +kernel
theorem dX8_range_141 : decode cX8_range 141 = .ok (.getfield 78, 3) := by decide +kernel
theorem dX8_range_144 : decode cX8_range 144 = .ok (.aload 7, 2) := by decide +kernel
theorem dX8_range_146 : decode cX8_range 146 = .ok (.getfield 90, 3) := by decide +kernel
theorem dX8_range_149 : decode cX8_range 149 = .ok (.iload 9, 2) := by decide +kernel
theorem dX8_range_151 : decode cX8_range 151 = .ok (.laload, 1) := by decide +kernel
theorem dX8_range_152 : decode cX8_range 152 = .ok (.aload 7, 2) := by decide +kernel
theorem dX8_range_154 : decode cX8_range 154 = .ok (.getfield 93, 3) := by decide +kernel
theorem dX8_range_157 : decode cX8_range 157 = .ok (.iload 9, 2) := by decide +kernel
theorem dX8_range_159 : decode cX8_range 159 = .ok (.laload, 1) := by decide +kernel
theorem dX8_range_160 : decode cX8_range 160 = .ok (.invokestatic 116, 3) := by decide +kernel
theorem dX8_range_163 : decode cX8_range 163 = .ok (.iinc 9 1, 3) := by decide +kernel
theorem dX8_range_166 : decode cX8_range 166 = .ok (.goto (-67), 3) := by decide +kernel
theorem dX8_range_169 : decode cX8_range 169 = .ok (.aload_n 0, 1) := by decide +kernel
theorem dX8_range_170 : decode cX8_range 170 = .ok (.iload_n 1, 1) := by decide +kernel
theorem dX8_range_171 : decode cX8_range 171 = .ok (.iload 8, 2) := by decide +kernel
theorem dX8_range_173 : decode cX8_range 173 = .ok (.invokevirtual 135, 3) := by decide +kernel
theorem dX8_range_176 : decode cX8_range 176 = .ok (.ireturn, 1) := by decide +kernel
set_option maxRecDepth 100000 in
set_option maxHeartbeats 4000000 in
theorem c_X8_range (l : Launch) (D : va_G) (cy : Nat → ClassId) (N0 : Nat) (h : qH) (m0 : Nat) (y ms mb mw od pt fi re rc rs so ot cn la ro : Nat) (gr cd ca ct fau cs ce rn : Int32) (ra rk rv : Nat → Nat) (S : Nat → qSlot) (p0 p1 : Int32) (p2 p3 : Int64) (hY : h y = some (.inr (8, [.ref ms, .ref mb, .ref mw, .int gr, .int cd, .int ca, .int (nI m0), .ref od, .ref pt, .int ct, .int fau, .ref fi, .ref re, .int cs, .ref rc, .ref rs, .ref so, .ref ot, .ref cn, .ref la, .int ce, .ref ro, .int rn]))) (hM : qMR cy h ms mb mw ra rk rv S) (hI : ∀ i, i < 28 → qOk (S i).1 (S i).2.1) (hm0 : m0 ≤ 20000) : qC l D cy N0 yX8_range cX8_range 10 (some .int) 2 60 0 0 [.ref y, .int p0, .int p1, .long p2, .long p3] h (fun v h' => v = some (.int (xs_range S p0 p1 p2 p3 m0).2.2.1) ∧ h' y = some (.inr (8, [.ref ms, .ref mb, .ref mw, .int gr, .int (xs_range S p0 p1 p2 p3 m0).1, .int ca, .int (nI (xs_range S p0 p1 p2 p3 m0).2.2.2), .ref od, .ref pt, .int ct, .int fau, .ref fi, .ref re, .int cs, .ref rc, .ref rs, .ref so, .ref ot, .ref cn, .ref la, .int ce, .ref ro, .int rn])) ∧ qMR cy h' ms mb mw ra rk rv ((xs_range S p0 p1 p2 p3 m0).2.1) ∧ qFm h h' y ra rk rv) (fun E h' => False) := by
  refine q_ofW (by decide) (by exact Nat.le_of_ble_eq_true rfl) ?_
  intro p e s m below meth c ls C hP hl
  have hx := C.1
  have hb := C.2.1
  have hS : va_S (qA N0) s.heap s.heap [] := va_S.rf
  have hl : lv_has ls 10 [(0, .ref y), (1, .int p0), (2, .int p1), (3, .long p2), (5, .long p3)] := hl
  have hle : qle h h := qle_rf
  have hY0 := hY
  obtain ⟨hms, hmb, hmw, hmd, hrs, kdw, smw, dpw, rww, nw, fw, gw, hRw⟩ := id hM
  subst hmw
  have fr : ∀ b o, h b = some o → b ≠ y → qOf (ra 28) (rk 28) (rv 28) b → h b = some o := fun b o hb _ _ => hb
  have faw := hRw.2.2.2.1
  have fkw := hRw.2.2.2.2.1
  have fvw := hRw.2.2.2.2.2
  unfold qRb at faw
  unfold qJr at fkw fvw
  refine lv_aload_n hx hb dX8_range_0 rfl (lv_at hl 0 rfl) ?_
  refine lv_iload_n hx hb dX8_range_1 rfl (lv_at hl 1 rfl) ?_
  refine q_callS (rest := [.ref y]) C (c_X8_isSlot l D cy N0 h p0) kX8_isSlot g1246 g1247 hP hS (by first | decide | omega) hl.1 rfl (by simp [q_catrf, q_cati, q_catl, q_cata, q_catn]) (by first | decide | omega) dX8_range_2 (fun q ce E h' H1 locs1 hE => hE.elim) (fun v hh1 H locs hq hP hS => ?_)
  obtain ⟨rfl, ⟨rfl, sl9⟩ | ⟨rfl, sl9⟩⟩ := hq
  · obtain ⟨i, hi, rfl⟩ := sl9.of
    have ebi : bSl (nI i) = true := bSl_t sl9
    have eci : (nI i).toNatClampNeg = i := nI_clamp (by omega)
    refine lv_if_eq (tgt := 19) hx hb dX8_range_5 (by decide) (fun c5 => ?_) (fun c5 => ?_)
    · replace c5 : 1 = 0 := (nI_eq (a := 1) (b := 0) (by omega) (by omega)).mp c5
      exfalso; omega
    · replace c5 : ¬ 1 = 0 := fun zq => c5 ((nI_eq (a := 1) (b := 0) (by omega) (by omega)).mpr zq)
      refine lv_iload_n hx hb dX8_range_8 rfl (lv_at hl 2 rfl) ?_
      refine q_callS (rest := [.ref y]) C (c_X8_isSlot l D cy N0 h p1) kX8_isSlot g1246 g1247 hP hS (by first | decide | omega) hl.1 rfl (by simp [q_catrf, q_cati, q_catl, q_cata, q_catn]) (by first | decide | omega) dX8_range_9 (fun q ce E h' H1 locs1 hE => hE.elim) (fun v hh2 H locs hq hP hS => ?_)
      obtain ⟨rfl, ⟨rfl, sl9⟩ | ⟨rfl, sl9⟩⟩ := hq
      · obtain ⟨j, hj, rfl⟩ := sl9.of
        have ebj : bSl (nI j) = true := bSl_t sl9
        have ecj : (nI j).toNatClampNeg = j := nI_clamp (by omega)
        refine lv_if_eq (tgt := 19) hx hb dX8_range_12 (by decide) (fun c12 => ?_) (fun c12 => ?_)
        · replace c12 : 1 = 0 := (nI_eq (a := 1) (b := 0) (by omega) (by omega)).mp c12
          exfalso; omega
        · replace c12 : ¬ 1 = 0 := fun zq => c12 ((nI_eq (a := 1) (b := 0) (by omega) (by omega)).mpr zq)
          refine lv_iconst (v := nI 1) hx hb dX8_range_15 (by decide) ?_
          refine lv_goto (tgt := 20) hx hb dX8_range_16 (by decide) ?_
          refine lv_iconst (v := nI 1) hx hb dX8_range_20 (by decide) ?_
          refine q_callV (rest := []) C (c_X8_good1 l D cy N0 h y ms mb (ra 28) od pt fi re rc rs so ot cn la ro gr cd ca (nI m0) ct fau cs ce rn (nI 1) hY) kX8_good g1249 g1251 rfl gp41 g4 hP hS hY (by first | decide | omega) hl.1 rfl (by decide) (by first | decide | omega) dX8_range_21 (fun q ce E h' H1 locs1 hE => hE.elim) (fun v hh3 H locs hq hP hS => ?_)
          obtain ⟨rfl, rfl⟩ := hq
          replace hP : qP D N0 (qs h y (.inr (8, [.ref ms, .ref mb, .ref (ra 28), .int gr, .int 0, .int ca, .int (nI m0), .ref od, .ref pt, .int ct, .int fau, .ref fi, .ref re, .int cs, .ref rc, .ref rs, .ref so, .ref ot, .ref cn, .ref la, .int ce, .ref ro, .int rn]))) H := hP
          obtain ⟨hv1, ehv1⟩ : ∃ z : qH, z = qs h y (.inr (8, [.ref ms, .ref mb, .ref (ra 28), .int gr, .int 0, .int ca, .int (nI m0), .ref od, .ref pt, .int ct, .int fau, .ref fi, .ref re, .int cs, .ref rc, .ref rs, .ref so, .ref ot, .ref cn, .ref la, .int ce, .ref ro, .int rn])) := ⟨_, rfl⟩
          rw [← ehv1] at hP
          have khv1 : ∀ b o, b ≠ y → h b = some o → hv1 b = some o := by rw [ehv1]; exact fun b o nb hb => (qs_ne nb).trans hb
          replace hms := khv1 _ _ (fun q => by subst q; have := hms.symm.trans hY; first | cases this | simp at this) hms
          replace hmb := khv1 _ _ (fun q => by subst q; have := hmb.symm.trans hY; first | cases this | simp at this) hmb
          replace faw := khv1 _ _ (fun q => by have z9 := faw; rw [q] at z9; have := z9.symm.trans hY; first | cases this | simp at this) faw
          replace fkw := khv1 _ _ (fun q => by have z9 := fkw; rw [q] at z9; have := z9.symm.trans hY; first | cases this | simp at this) fkw
          replace fvw := khv1 _ _ (fun q => by have z9 := fvw; rw [q] at z9; have := z9.symm.trans hY; first | cases this | simp at this) fvw
          replace hY : hv1 y = some (.inr (8, [.ref ms, .ref mb, .ref (ra 28), .int gr, .int 0, .int ca, .int (nI m0), .ref od, .ref pt, .int ct, .int fau, .ref fi, .ref re, .int cs, .ref rc, .ref rs, .ref so, .ref ot, .ref cn, .ref la, .int ce, .ref ro, .int rn])) := by rw [ehv1]; exact qs_self
          clear ehv1
          replace fr := fun b o hb n1 n2 => khv1 b o n1 (fr b o hb n1 n2)
          refine lv_if_eq (tgt := 42) hx hb dX8_range_24 (by decide) (fun c24 => ?_) (fun c24 => ?_)
          · replace c24 : 1 = 0 := (nI_eq (a := 1) (b := 0) (by omega) (by omega)).mp c24
            exfalso; omega
          · replace c24 : ¬ 1 = 0 := fun zq => c24 ((nI_eq (a := 1) (b := 0) (by omega) (by omega)).mpr zq)
            refine lv_aload_n hx hb dX8_range_27 rfl (lv_at hl 0 rfl) ?_
            refine lv_aload_n hx hb dX8_range_28 rfl (lv_at hl 0 rfl) ?_
            refine lv_iload_n hx hb dX8_range_29 rfl (lv_at hl 2 rfl) ?_
            refine lv_bipush (v := nI 8) hx hb dX8_range_30 (by decide) ?_
            obtain ⟨nj, rwj, Fj, Gj, hRj, hnj, hLj, hKj⟩ := hrs j (by omega)
            have apj := hRj.apart hRw (hmd.two (i := j) (j := 28) (by omega) (by omega) (by omega))
            replace hRj := hRj.keep2 (fun b o hb ho => fr b o ho (hRj.ney hY0 hb) (hb.elim (fun q => q ▸ apj.1) (fun hb => hb.elim (fun q => q ▸ apj.2.1) (fun q => q ▸ apj.2.2))))
            have faj := hRj.2.2.2.1
            have fkj := hRj.2.2.2.2.1
            have fvj := hRj.2.2.2.2.2
            unfold qRb at faj
            unfold qJr at fkj fvj
            refine q_callV (rest := [.ref y]) C (c_X8_holds l D cy N0 hv1 y ms ra rk rv j 8 _ _ _ _ _ _ _ _ hY rfl hms ⟨hRj.1, hRj.2.1, hRj.2.2.1, faj, fkj, fvj⟩ (by omega)) kX8_holds g1264 g1266 rfl gp42 g4 hP hS hY (by first | decide | omega) hl.1 rfl (by simp [q_catrf, q_cati, q_catl, q_cata, q_catn]) (by first | decide | omega) dX8_range_32 (fun q ce E h' H1 locs1 hE => hE.elim) (fun v hh4 H locs hq hP hS => ?_)
            obtain ⟨rfl, rfl⟩ := hq
            cases hoj : bHo (S j).1 8 with
            | false =>
              refine lv_iconst (v := nI 2) hx hb dX8_range_35 (by decide) ?_
              refine q_callV (rest := []) C (c_X8_good0 l D cy N0 hv1 y ms mb (ra 28) od pt fi re rc rs so ot cn la ro gr 0 ca (nI m0) ct fau cs ce rn (nI 2) hY) kX8_good g1249 g1251 rfl gp41 g4 hP hS hY (by first | decide | omega) hl.1 rfl (by decide) (by first | decide | omega) dX8_range_36 (fun q ce E h' H1 locs1 hE => hE.elim) (fun v hh5 H locs hq hP hS => ?_)
              obtain ⟨rfl, rfl⟩ := hq
              replace hP : qP D N0 (qs hv1 y (.inr (8, [.ref ms, .ref mb, .ref (ra 28), .int gr, .int (nI 2), .int ca, .int (nI m0), .ref od, .ref pt, .int ct, .int fau, .ref fi, .ref re, .int cs, .ref rc, .ref rs, .ref so, .ref ot, .ref cn, .ref la, .int ce, .ref ro, .int rn]))) H := hP
              obtain ⟨hv2, ehv2⟩ : ∃ z : qH, z = qs hv1 y (.inr (8, [.ref ms, .ref mb, .ref (ra 28), .int gr, .int (nI 2), .int ca, .int (nI m0), .ref od, .ref pt, .int ct, .int fau, .ref fi, .ref re, .int cs, .ref rc, .ref rs, .ref so, .ref ot, .ref cn, .ref la, .int ce, .ref ro, .int rn])) := ⟨_, rfl⟩
              rw [← ehv2] at hP
              have khv2 : ∀ b o, b ≠ y → hv1 b = some o → hv2 b = some o := by rw [ehv2]; exact fun b o nb hb => (qs_ne nb).trans hb
              replace hms := khv2 _ _ (fun q => by subst q; have := hms.symm.trans hY; first | cases this | simp at this) hms
              replace hmb := khv2 _ _ (fun q => by subst q; have := hmb.symm.trans hY; first | cases this | simp at this) hmb
              replace faw := khv2 _ _ (fun q => by have z9 := faw; rw [q] at z9; have := z9.symm.trans hY; first | cases this | simp at this) faw
              replace fkw := khv2 _ _ (fun q => by have z9 := fkw; rw [q] at z9; have := z9.symm.trans hY; first | cases this | simp at this) fkw
              replace fvw := khv2 _ _ (fun q => by have z9 := fvw; rw [q] at z9; have := z9.symm.trans hY; first | cases this | simp at this) fvw
              replace faj := khv2 _ _ (fun q => by have z9 := faj; rw [q] at z9; have := z9.symm.trans hY; first | cases this | simp at this) faj
              replace fkj := khv2 _ _ (fun q => by have z9 := fkj; rw [q] at z9; have := z9.symm.trans hY; first | cases this | simp at this) fkj
              replace fvj := khv2 _ _ (fun q => by have z9 := fvj; rw [q] at z9; have := z9.symm.trans hY; first | cases this | simp at this) fvj
              replace hY : hv2 y = some (.inr (8, [.ref ms, .ref mb, .ref (ra 28), .int gr, .int (nI 2), .int ca, .int (nI m0), .ref od, .ref pt, .int ct, .int fau, .ref fi, .ref re, .int cs, .ref rc, .ref rs, .ref so, .ref ot, .ref cn, .ref la, .int ce, .ref ro, .int rn])) := by rw [ehv2]; exact qs_self
              clear ehv2
              replace fr := fun b o hb n1 n2 => khv2 b o n1 (fr b o hb n1 n2)
              refine lv_if_ne (tgt := 44) hx hb dX8_range_39 (by decide) (fun c39 => ?_) (fun c39 => ?_)
              · replace c39 : ¬ 0 = 0 := fun zq => c39 ((nI_eq (a := 0) (b := 0) (by omega) (by omega)).mpr zq)
                exfalso; omega
              · replace c39 : 0 = 0 := (nI_eq (a := 0) (b := 0) (by omega) (by omega)).mp c39
                refine lv_iconst (v := nI 0) hx hb dX8_range_42 (by decide) ?_
                have ex : xs_range S (nI i) (nI j) p2 p3 m0 = (2, S, 0, m0) := by (unfold xs_range; rw [if_neg (by simp [ebi, ebj]), ecj, if_pos (by simp [hoj])])
                obtain ⟨m9, f9⟩ := hM.fin0 hY0 (h' := hv2) ⟨hRw.1, hRw.2.1, hRw.2.2.1, faw, fkw, fvw⟩ fr
                exact q_iret C hP hS ⟨by first | (rw [ex]; done) | (rw [ex]; rfl), by rw [ex]; exact hY, by first | exact m9 | (rw [ex]; exact m9), f9⟩ (by omega) dX8_range_43
            | true =>
              refine lv_iconst (v := nI 2) hx hb dX8_range_35 (by decide) ?_
              refine q_callV (rest := []) C (c_X8_good1 l D cy N0 hv1 y ms mb (ra 28) od pt fi re rc rs so ot cn la ro gr 0 ca (nI m0) ct fau cs ce rn (nI 2) hY) kX8_good g1249 g1251 rfl gp41 g4 hP hS hY (by first | decide | omega) hl.1 rfl (by decide) (by first | decide | omega) dX8_range_36 (fun q ce E h' H1 locs1 hE => hE.elim) (fun v hh6 H locs hq hP hS => ?_)
              obtain ⟨rfl, rfl⟩ := hq
              replace hP : qP D N0 (qs hv1 y (.inr (8, [.ref ms, .ref mb, .ref (ra 28), .int gr, .int 0, .int ca, .int (nI m0), .ref od, .ref pt, .int ct, .int fau, .ref fi, .ref re, .int cs, .ref rc, .ref rs, .ref so, .ref ot, .ref cn, .ref la, .int ce, .ref ro, .int rn]))) H := hP
              obtain ⟨hv3, ehv3⟩ : ∃ z : qH, z = qs hv1 y (.inr (8, [.ref ms, .ref mb, .ref (ra 28), .int gr, .int 0, .int ca, .int (nI m0), .ref od, .ref pt, .int ct, .int fau, .ref fi, .ref re, .int cs, .ref rc, .ref rs, .ref so, .ref ot, .ref cn, .ref la, .int ce, .ref ro, .int rn])) := ⟨_, rfl⟩
              rw [← ehv3] at hP
              have khv3 : ∀ b o, b ≠ y → hv1 b = some o → hv3 b = some o := by rw [ehv3]; exact fun b o nb hb => (qs_ne nb).trans hb
              replace hms := khv3 _ _ (fun q => by subst q; have := hms.symm.trans hY; first | cases this | simp at this) hms
              replace hmb := khv3 _ _ (fun q => by subst q; have := hmb.symm.trans hY; first | cases this | simp at this) hmb
              replace faw := khv3 _ _ (fun q => by have z9 := faw; rw [q] at z9; have := z9.symm.trans hY; first | cases this | simp at this) faw
              replace fkw := khv3 _ _ (fun q => by have z9 := fkw; rw [q] at z9; have := z9.symm.trans hY; first | cases this | simp at this) fkw
              replace fvw := khv3 _ _ (fun q => by have z9 := fvw; rw [q] at z9; have := z9.symm.trans hY; first | cases this | simp at this) fvw
              replace faj := khv3 _ _ (fun q => by have z9 := faj; rw [q] at z9; have := z9.symm.trans hY; first | cases this | simp at this) faj
              replace fkj := khv3 _ _ (fun q => by have z9 := fkj; rw [q] at z9; have := z9.symm.trans hY; first | cases this | simp at this) fkj
              replace fvj := khv3 _ _ (fun q => by have z9 := fvj; rw [q] at z9; have := z9.symm.trans hY; first | cases this | simp at this) fvj
              replace hY : hv3 y = some (.inr (8, [.ref ms, .ref mb, .ref (ra 28), .int gr, .int 0, .int ca, .int (nI m0), .ref od, .ref pt, .int ct, .int fau, .ref fi, .ref re, .int cs, .ref rc, .ref rs, .ref so, .ref ot, .ref cn, .ref la, .int ce, .ref ro, .int rn])) := by rw [ehv3]; exact qs_self
              clear ehv3
              replace fr := fun b o hb n1 n2 => khv3 b o n1 (fr b o hb n1 n2)
              refine lv_if_ne (tgt := 44) hx hb dX8_range_39 (by decide) (fun c39 => ?_) (fun c39 => ?_)
              · replace c39 : ¬ 1 = 0 := fun zq => c39 ((nI_eq (a := 1) (b := 0) (by omega) (by omega)).mpr zq)
                refine lv_aload_n hx hb dX8_range_44 rfl (lv_at hl 0 rfl) ?_
                refine q_get C hP hY rfl inX8 0 (by decide) g1167 rfl dX8_range_45 ?_
                refine lv_iload_n hx hb dX8_range_48 rfl (lv_at hl 2 rfl) ?_
                refine q_aaldR C hP hms rfl (by omega) (by omega) rfl dX8_range_49 ?_
                refine lv_astore (lv' := [(7, .ref (ra j)), (0, .ref y), (1, .int (nI i)), (2, .int (nI j)), (3, .long p2), (5, .long p3)]) hx hb dX8_range_50 hl (by decide) rfl (fun ls hl => ?_)
                refine lv_aload_n hx hb dX8_range_52 rfl (lv_at hl 1 rfl) ?_
                refine lv_aload_n hx hb dX8_range_53 rfl (lv_at hl 1 rfl) ?_
                refine lv_iconst (v := nI 0) hx hb dX8_range_54 (by decide) ?_
                refine lv_aload hx hb dX8_range_55 (lv_at hl 0 rfl) ?_
                refine q_get C hP faj rfl inX7 3 (by decide) g1143 rfl dX8_range_57 ?_
                refine q_callV (rest := [.ref y]) C (c_X8_fits l D cy N0 hv3 y m0 0 nj _ hY rfl (by omega) (by omega)) kX8_fits g1413 g1415 rfl gp61 g4 hP hS hY (by first | decide | omega) hl.1 rfl (by simp [q_catrf, q_cati, q_catl, q_cata, q_catn]) (by first | decide | omega) dX8_range_60 (fun q ce E h' H1 locs1 hE => hE.elim) (fun v hh7 H locs hq hP hS => ?_)
                obtain ⟨rfl, rfl⟩ := hq
                by_cases cf : 0 ≤ 1000 ∧ m0 + nj ≤ 20000
                · rw [if_pos cf]
                  refine lv_iconst (v := nI 3) hx hb dX8_range_63 (by decide) ?_
                  refine q_callV (rest := []) C (c_X8_good1 l D cy N0 hv3 y ms mb (ra 28) od pt fi re rc rs so ot cn la ro gr 0 ca (nI m0) ct fau cs ce rn (nI 3) hY) kX8_good g1249 g1251 rfl gp41 g4 hP hS hY (by first | decide | omega) hl.1 rfl (by decide) (by first | decide | omega) dX8_range_64 (fun q ce E h' H1 locs1 hE => hE.elim) (fun v hh8 H locs hq hP hS => ?_)
                  obtain ⟨rfl, rfl⟩ := hq
                  replace hP : qP D N0 (qs hv3 y (.inr (8, [.ref ms, .ref mb, .ref (ra 28), .int gr, .int 0, .int ca, .int (nI m0), .ref od, .ref pt, .int ct, .int fau, .ref fi, .ref re, .int cs, .ref rc, .ref rs, .ref so, .ref ot, .ref cn, .ref la, .int ce, .ref ro, .int rn]))) H := hP
                  obtain ⟨hv4, ehv4⟩ : ∃ z : qH, z = qs hv3 y (.inr (8, [.ref ms, .ref mb, .ref (ra 28), .int gr, .int 0, .int ca, .int (nI m0), .ref od, .ref pt, .int ct, .int fau, .ref fi, .ref re, .int cs, .ref rc, .ref rs, .ref so, .ref ot, .ref cn, .ref la, .int ce, .ref ro, .int rn])) := ⟨_, rfl⟩
                  rw [← ehv4] at hP
                  have khv4 : ∀ b o, b ≠ y → hv3 b = some o → hv4 b = some o := by rw [ehv4]; exact fun b o nb hb => (qs_ne nb).trans hb
                  replace hms := khv4 _ _ (fun q => by subst q; have := hms.symm.trans hY; first | cases this | simp at this) hms
                  replace hmb := khv4 _ _ (fun q => by subst q; have := hmb.symm.trans hY; first | cases this | simp at this) hmb
                  replace faw := khv4 _ _ (fun q => by have z9 := faw; rw [q] at z9; have := z9.symm.trans hY; first | cases this | simp at this) faw
                  replace fkw := khv4 _ _ (fun q => by have z9 := fkw; rw [q] at z9; have := z9.symm.trans hY; first | cases this | simp at this) fkw
                  replace fvw := khv4 _ _ (fun q => by have z9 := fvw; rw [q] at z9; have := z9.symm.trans hY; first | cases this | simp at this) fvw
                  replace faj := khv4 _ _ (fun q => by have z9 := faj; rw [q] at z9; have := z9.symm.trans hY; first | cases this | simp at this) faj
                  replace fkj := khv4 _ _ (fun q => by have z9 := fkj; rw [q] at z9; have := z9.symm.trans hY; first | cases this | simp at this) fkj
                  replace fvj := khv4 _ _ (fun q => by have z9 := fvj; rw [q] at z9; have := z9.symm.trans hY; first | cases this | simp at this) fvj
                  replace hY : hv4 y = some (.inr (8, [.ref ms, .ref mb, .ref (ra 28), .int gr, .int 0, .int ca, .int (nI m0), .ref od, .ref pt, .int ct, .int fau, .ref fi, .ref re, .int cs, .ref rc, .ref rs, .ref so, .ref ot, .ref cn, .ref la, .int ce, .ref ro, .int rn])) := by rw [ehv4]; exact qs_self
                  clear ehv4
                  replace fr := fun b o hb n1 n2 => khv4 b o n1 (fr b o hb n1 n2)
                  refine lv_if_ne (tgt := 72) hx hb dX8_range_67 (by decide) (fun c67 => ?_) (fun c67 => ?_)
                  · replace c67 : ¬ 1 = 0 := fun zq => c67 ((nI_eq (a := 1) (b := 0) (by omega) (by omega)).mpr zq)
                    refine lv_aload hx hb dX8_range_72 (lv_at hl 0 rfl) ?_
                    refine q_get C hP faj rfl inX7 3 (by decide) g1143 rfl dX8_range_74 ?_
                    refine lv_istore (lv' := [(8, .int (nI nj)), (7, .ref (ra j)), (0, .ref y), (1, .int (nI i)), (2, .int (nI j)), (3, .long p2), (5, .long p3)]) hx hb dX8_range_77 hl (by decide) rfl (fun ls hl => ?_)
                    refine lv_aload hx hb dX8_range_79 (lv_at hl 1 rfl) ?_
                    refine lv_aload_n hx hb dX8_range_81 rfl (lv_at hl 2 rfl) ?_
                    refine q_get C hP hY rfl inX8 2 (by decide) g1169 rfl dX8_range_82 ?_
                    refine q_callS (rest := []) C (c_X8_copy l D cy N0 hv4 (ra j) (rk j) (rv j) (S j).1 (nI (S j).2.2.1) (nI (S j).2.2.2) rwj nj Fj Gj (ra 28) (rk 28) (rv 28) kdw smw dpw rww nw fw gw ⟨hRj.1, hRj.2.1, hRj.2.2.1, faj, fkj, fvj⟩ ⟨hRw.1, hRw.2.1, hRw.2.2.1, faw, fkw, fvw⟩ apj (by omega)) kX8_copy g1257 g1258 hP hS (by first | decide | omega) hl.1 rfl (by decide) (by first | decide | omega) dX8_range_85 (fun q ce E h' H1 locs1 hE => hE.elim) (fun v hh9 H locs hq hP hS => ?_)
                    obtain ⟨rfl, rfl⟩ := hq
                    obtain ⟨hv5, ehv5⟩ : ∃ z : qH, z = qRh cy hv4 (ra 28) (rk 28) (rv 28) ((S j).1) (nI nj) (nI (S j).2.2.1) (nI (S j).2.2.2) rwj (qCp Fj fw nj) (qCp Gj gw nj) := ⟨_, rfl⟩
                    rw [← ehv5] at hP
                    have r9 : qRw cy hv5 (ra 28) (rk 28) (rv 28) ((S j).1) (nI nj) (nI (S j).2.2.1) (nI (S j).2.2.2) rwj (qCp Fj fw nj) (qCp Gj gw nj) := by rw [ehv5]; exact qRw.new (cy := cy) (h := hv4) (kd := kdw) (n := (nI nw)) (sm := smw) (dp := dpw) (rw := rww) (f := fw) (g := gw) ⟨hRw.1, hRw.2.1, hRw.2.2.1, faw, fkw, fvw⟩
                    have khv5 : ∀ b o, qOf (ra 28) (rk 28) (rv 28) b → hv4 b = some o → hv5 b = some o := by rw [ehv5]; exact fun b o q hb => (qRh_o q.1 q.2.1 q.2.2).trans hb
                    replace hY := khv5 _ _ ⟨fun q => by rw [q] at hY; have := faw.symm.trans hY; first | cases this | simp at this, fun q => by rw [q] at hY; have := fkw.symm.trans hY; first | cases this | simp at this, fun q => by rw [q] at hY; have := fvw.symm.trans hY; first | cases this | simp at this⟩ hY
                    replace hms := khv5 _ _ ⟨fun q => by rw [q] at hms; have := faw.symm.trans hms; first | cases this | simp at this, fun q => by rw [q] at hms; have := fkw.symm.trans hms; first | cases this | simp at this, fun q => by rw [q] at hms; have := fvw.symm.trans hms; first | cases this | simp at this⟩ hms
                    replace hmb := khv5 _ _ ⟨fun q => by rw [q] at hmb; have := faw.symm.trans hmb; first | cases this | simp at this, fun q => by rw [q] at hmb; have := fkw.symm.trans hmb; first | cases this | simp at this, fun q => by rw [q] at hmb; have := fvw.symm.trans hmb; first | cases this | simp at this⟩ hmb
                    replace faj := khv5 _ _ apj.1 faj
                    replace fkj := khv5 _ _ apj.2.1 fkj
                    replace fvj := khv5 _ _ apj.2.2 fvj
                    replace fr := fun b o hb n1 n2 => khv5 b o n2 (fr b o hb n1 n2)
                    clear faw fkw fvw
                    have faw := r9.2.2.2.1
                    have fkw := r9.2.2.2.2.1
                    have fvw := r9.2.2.2.2.2
                    unfold qRb at faw
                    unfold qJr at fkw fvw
                    clear r9 ehv5
                    have lw : qLs ((S j).1) (qCp Fj fw nj) (qCp Gj gw nj) nj = (S j).2.1 := by rw [qLs_cp]; exact hLj.symm
                    refine lv_aload_n hx hb dX8_range_88 rfl (lv_at hl 2 rfl) ?_
                    refine q_get C hP hY rfl inX8 2 (by decide) g1169 rfl dX8_range_89 ?_
                    refine lv_iconst (v := nI 0) hx hb dX8_range_92 (by decide) ?_
                    refine q_put C hP hS faw rfl inX7 tyX7 tyX7_ok nmX7 3 (by decide) g1143 rfl rfl rfl (Nat.le_of_ble_eq_true rfl) dX8_range_93 (fun H locs hP hS => ?_)
                    replace hP : qP D N0 (qs hv5 (ra 28) (.inr (7, [.ref (rk 28), .ref (rv 28), .int (S j).1, .int (nI 0), .int (nI (S j).2.2.1), .int (nI (S j).2.2.2), .int rwj]))) H := hP
                    obtain ⟨hv6, ehv6⟩ : ∃ z : qH, z = qs hv5 (ra 28) (.inr (7, [.ref (rk 28), .ref (rv 28), .int (S j).1, .int (nI 0), .int (nI (S j).2.2.1), .int (nI (S j).2.2.2), .int rwj])) := ⟨_, rfl⟩
                    rw [← ehv6] at hP
                    have khv6 : ∀ b o, b ≠ (ra 28) → hv5 b = some o → hv6 b = some o := by rw [ehv6]; exact fun b o nb hb => (qs_ne nb).trans hb
                    replace hY := khv6 _ _ (fun q => by have z9 := hY; rw [q] at z9; have := z9.symm.trans faw; first | cases this | simp at this) hY
                    replace hms := khv6 _ _ (fun q => by have z9 := hms; rw [q] at z9; have := z9.symm.trans faw; first | cases this | simp at this) hms
                    replace hmb := khv6 _ _ (fun q => by have z9 := hmb; rw [q] at z9; have := z9.symm.trans faw; first | cases this | simp at this) hmb
                    replace fkw := khv6 _ _ (fun q => by have z9 := fkw; rw [q] at z9; have := z9.symm.trans faw; first | cases this | simp at this) fkw
                    replace fvw := khv6 _ _ (fun q => by have z9 := fvw; rw [q] at z9; have := z9.symm.trans faw; first | cases this | simp at this) fvw
                    replace faj := khv6 _ _ apj.1.1 faj
                    replace fkj := khv6 _ _ apj.2.1.1 fkj
                    replace fvj := khv6 _ _ apj.2.2.1 fvj
                    replace faw : hv6 (ra 28) = some (.inr (7, [.ref (rk 28), .ref (rv 28), .int (S j).1, .int (nI 0), .int (nI (S j).2.2.1), .int (nI (S j).2.2.2), .int rwj])) := by rw [ehv6]; exact qs_self
                    clear ehv6
                    replace fr := fun b o hb n1 n2 => khv6 b o n2.1 (fr b o hb n1 n2)
                    refine lv_iconst (v := nI 0) hx hb dX8_range_96 (by decide) ?_
                    refine lv_istore (lv' := [(9, .int (nI 0)), (8, .int (nI nj)), (7, .ref (ra j)), (0, .ref y), (1, .int (nI i)), (2, .int (nI j)), (3, .long p2), (5, .long p3)]) hx hb dX8_range_97 hl (by decide) rfl (fun ls hl => ?_)
                    have ek3 : (S j).1 = 3 := bHo_8 (hI j (by omega)).2.2 hoj
                    clear lw
                    refine (?_ : ∀ (t : Nat) (H : Heap) (locs : List Loc) (ls : Array Slot) (hv0 : qH) (fW gW : Nat → Int64) (nW ii : Nat), nj - ii < t → hv0 y = some (.inr (8, [.ref ms, .ref mb, .ref (ra 28), .int gr, .int 0, .int ca, .int (nI m0), .ref od, .ref pt, .int ct, .int fau, .ref fi, .ref re, .int cs, .ref rc, .ref rs, .ref so, .ref ot, .ref cn, .ref la, .int ce, .ref ro, .int rn])) → hv0 ms = some (.inl (cy 5, 24, .inr (.inr (.inr (.inr (fun i => some (ra i))))))) → hv0 mb = some (.inl (cy 5, 4, .inr (.inr (.inr (.inr (fun i => some (ra (24 + i)))))))) → hv0 (ra 28) = some (.inr (7, [.ref (rk 28), .ref (rv 28), .int (S j).1, .int (nI nW), .int (nI (S j).2.2.1), .int (nI (S j).2.2.2), .int rwj])) → hv0 (rk 28) = some (.inl (cy 1, 1001, .inr (.inl fW))) → hv0 (rv 28) = some (.inl (cy 1, 1001, .inr (.inl gW))) → hv0 (ra j) = some (.inr (7, [.ref (rk j), .ref (rv j), .int (S j).1, .int (nI nj), .int (nI (S j).2.2.1), .int (nI (S j).2.2.2), .int rwj])) → hv0 (rk j) = some (.inl (cy 1, 1001, .inr (.inl Fj))) → hv0 (rv j) = some (.inl (cy 1, 1001, .inr (.inl Gj))) → (∀ b o, h b = some o → b ≠ y → qOf (ra 28) (rk 28) (rv 28) b → hv0 b = some o) → qLs (S j).1 fW gW nW = xRg p2 p3 (qLs (S j).1 Fj Gj ii) → nW ≤ ii ∧ ii ≤ nj → lv_has ls 10 [(9, .int (nI ii)), (8, .int (nI nj)), (7, .ref (ra j)), (0, .ref y), (1, .int (nI i)), (3, .long p2), (5, .long p3)] → qP D N0 hv0 H → va_S (qA N0) s.heap H locs → W p l e _ s m _ below meth c H locs 0 0 _ (F0 m 99 ls [])) _ H locs ls hv6 (qCp Fj fw nj) (qCp Gj gw nj) 0 0 (Nat.lt_succ_self _) hY hms hmb faw fkw fvw faj fkj fvj fr rfl ⟨Nat.le_refl _, Nat.zero_le _⟩ (lv_sub hl [0, 1, 2, 3, 4, 6, 7] rfl) hP hS
                    clear hl hP hS
                    intro t
                    induction t with
                    | zero => intro H locs ls hv0 fW gW nW ii ht; exact absurd ht (Nat.not_lt_zero _)
                    | succ t ihl =>
                      intro H locs ls hv0 fW gW nW ii ht hY hms hmb faw fkw fvw faj fkj fvj fr lw hnW hl hP hS
                      refine lv_iload hx hb dX8_range_99 (lv_at hl 0 rfl) ?_
                      refine lv_iload hx hb dX8_range_101 (lv_at hl 1 rfl) ?_
                      refine lv_icmp_ge (tgt := 169) hx hb dX8_range_103 (by decide) (fun c103 => ?_) (fun c103 => ?_)
                      · replace c103 : nj ≤ ii := (nI_leI (a := nj) (b := ii) (by omega) (by omega)).mp c103
                        have eii : ii = nj := by omega
                        rw [eii, ← hLj] at lw
                        refine lv_aload_n hx hb dX8_range_169 rfl (lv_at hl 3 rfl) ?_
                        refine lv_iload_n hx hb dX8_range_170 rfl (lv_at hl 4 rfl) ?_
                        refine lv_iload hx hb dX8_range_171 (lv_at hl 1 rfl) ?_
                        obtain ⟨ni, rwi, Fi, Gi, hRi, hni, hLi, hKi⟩ := hrs i (by omega)
                        have api := hRi.apart hRw (hmd.two (i := i) (j := 28) (by omega) (by omega) (by omega))
                        replace hRi := hRi.keep2 (fun b o hb ho => fr b o ho (hRi.ney hY0 hb) (hb.elim (fun q => q ▸ api.1) (fun hb => hb.elim (fun q => q ▸ api.2.1) (fun q => q ▸ api.2.2))))
                        have fai := hRi.2.2.2.1
                        have fki := hRi.2.2.2.2.1
                        have fvi := hRi.2.2.2.2.2
                        unfold qRb at fai
                        unfold qJr at fki fvi
                        refine q_callV (rest := []) C (c_X8_done l D cy N0 hv0 y ms mb od pt fi re rc rs so ot cn la ro gr 0 ca (nI m0) ct fau cs ce rn ra rk rv i (nI nj) (S j).1 (nI (S j).2.2.1) (nI (S j).2.2.2) rwj nW fW gW (S i).1 (nI (S i).2.2.1) (nI (S i).2.2.2) rwi ni Fi Gi hY hms hmd ⟨hRw.1, hRw.2.1, hRw.2.2.1, faw, fkw, fvw⟩ ⟨hRi.1, hRi.2.1, hRi.2.2.1, fai, fki, fvi⟩ (by omega) (by omega)) kX8_done g1293 g1295 rfl gp45 g4 hP hS hY (by first | decide | omega) hl.1 rfl (by decide) (by first | decide | omega) dX8_range_173 (fun q ce E h' H1 locs1 hE => hE.elim) (fun v hh10 H locs hq hP hS => ?_)
                        obtain ⟨rfl, hY9, hw9, hi9, fr9⟩ := hq
                        replace fr := fun b o hb n1 n2 n3 => fr9 b o (fr b o hb n1 n2) n1 n2 n3
                        rw [nI_add] at hY9
                        have el : (xRg p2 p3 (S j).2.1).length = nW := by rw [← lw, qLs_len]
                        have ex : xs_range S (nI i) (nI j) p2 p3 m0 = (0, qU S i ((S j).1, (xRg p2 p3 (S j).2.1), (S j).2.2), nI nW, m0 + nj) := by (unfold xs_range; rw [if_neg (by simp [ebi, ebj]), ecj, if_neg (by simp [hoj]), eci]; unfold xr_range; rw [show (S j).2.1.length = nj from (by rw [hLj, qLs_len]), if_neg (by omega), el])
                        obtain ⟨m9, f9⟩ := hM.fin hY0 (i := i) (by omega) (s := ((S j).1, (xRg p2 p3 (S j).2.1), (S j).2.2.1, (S j).2.2.2)) ⟨nW, _, _, _, hi9, by omega, by rw [qLs_cp]; exact lw.symm, Or.inl rfl⟩ hw9 fr
                        exact q_iret C hP hS ⟨by first | (rw [ex]; done) | (rw [ex]; rfl), by rw [ex]; exact hY9, by first | exact m9 | (rw [ex]; exact m9), f9⟩ (by omega) dX8_range_176
                      · replace c103 : ¬ nj ≤ ii := fun zq => c103 ((nI_leI (a := nj) (b := ii) (by omega) (by omega)).mpr zq)
                        refine lv_aload hx hb dX8_range_106 (lv_at hl 2 rfl) ?_
                        refine q_get C hP faj rfl inX7 0 (by decide) g1138 rfl dX8_range_108 ?_
                        refine lv_iload hx hb dX8_range_111 (lv_at hl 0 rfl) ?_
                        refine q_laldN C hP fkj (by omega) (by omega) dX8_range_113 ?_
                        refine lv_lload_n hx hb dX8_range_114 rfl (lv_at hl 5 rfl) ?_
                        refine W.lcmp hx hb dX8_range_115 ?_
                        refine lv_if_lt (tgt := 163) hx hb dX8_range_116 (by decide) (fun c116 => ?_) (fun c116 => ?_)
                        · replace c116 : (Fj ii).toInt < p2.toInt := Int64.lt_iff_toInt_lt.mp ((lg_cmp_lt _ _).mp c116)
                          refine lv_iinc (v := nI (ii + 1)) (lv' := [(9, .int (nI (ii + 1))), (8, .int (nI nj)), (7, .ref (ra j)), (0, .ref y), (1, .int (nI i)), (3, .long p2), (5, .long p3)]) hx hb dX8_range_163 hl (k := 0) rfl (nI_1 ii) (by decide) rfl (fun ls hl => ?_)
                          refine lv_goto (tgt := 99) hx hb dX8_range_166 (by decide) ?_
                          exact ihl H locs ls hv0 _ _ nW (ii + 1) (by omega) hY hms hmb faw fkw fvw faj fkj fvj fr (by rw [lw, qLs_succ]; unfold xRg; rw [List.filter_append, List.filter_cons, if_neg (by simp only [decide_eq_true_eq]; omega)]; simp) ⟨by omega, by omega⟩ (lv_sub hl [0, 1, 2, 3, 4, 5, 6] rfl) hP hS
                        · replace c116 : ¬ (Fj ii).toInt < p2.toInt := fun zq => c116 ((lg_cmp_lt _ _).mpr (Int64.lt_iff_toInt_lt.mpr zq))
                          refine lv_aload hx hb dX8_range_119 (lv_at hl 2 rfl) ?_
                          refine q_get C hP faj rfl inX7 0 (by decide) g1138 rfl dX8_range_121 ?_
                          refine lv_iload hx hb dX8_range_124 (lv_at hl 0 rfl) ?_
                          refine q_laldN C hP fkj (by omega) (by omega) dX8_range_126 ?_
                          refine lv_lload hx hb dX8_range_127 (lv_at hl 6 rfl) ?_
                          refine W.lcmp hx hb dX8_range_129 ?_
                          refine lv_if_ge (tgt := 163) hx hb dX8_range_130 (by decide) (fun c130 => ?_) (fun c130 => ?_)
                          · replace c130 : p3.toInt ≤ (Fj ii).toInt := Int64.le_iff_toInt_le.mp ((lg_cmp_ge _ _).mp c130)
                            refine lv_iinc (v := nI (ii + 1)) (lv' := [(9, .int (nI (ii + 1))), (8, .int (nI nj)), (7, .ref (ra j)), (0, .ref y), (1, .int (nI i)), (3, .long p2), (5, .long p3)]) hx hb dX8_range_163 hl (k := 0) rfl (nI_1 ii) (by decide) rfl (fun ls hl => ?_)
                            refine lv_goto (tgt := 99) hx hb dX8_range_166 (by decide) ?_
                            exact ihl H locs ls hv0 _ _ nW (ii + 1) (by omega) hY hms hmb faw fkw fvw faj fkj fvj fr (by rw [lw, qLs_succ]; unfold xRg; rw [List.filter_append, List.filter_cons, if_neg (by simp only [decide_eq_true_eq]; omega)]; simp) ⟨by omega, by omega⟩ (lv_sub hl [0, 1, 2, 3, 4, 5, 6] rfl) hP hS
                          · replace c130 : ¬ p3.toInt ≤ (Fj ii).toInt := fun zq => c130 ((lg_cmp_ge _ _).mpr (Int64.le_iff_toInt_le.mpr zq))
                            refine lv_aload_n hx hb dX8_range_133 rfl (lv_at hl 3 rfl) ?_
                            refine q_get C hP hY rfl inX8 2 (by decide) g1169 rfl dX8_range_134 ?_
                            refine lv_aload_n hx hb dX8_range_137 rfl (lv_at hl 3 rfl) ?_
                            refine q_get C hP hY rfl inX8 2 (by decide) g1169 rfl dX8_range_138 ?_
                            refine q_get C hP faw rfl inX7 3 (by decide) g1143 rfl dX8_range_141 ?_
                            refine lv_aload hx hb dX8_range_144 (lv_at hl 2 rfl) ?_
                            refine q_get C hP faj rfl inX7 0 (by decide) g1138 rfl dX8_range_146 ?_
                            refine lv_iload hx hb dX8_range_149 (lv_at hl 0 rfl) ?_
                            refine q_laldN C hP fkj (by omega) (by omega) dX8_range_151 ?_
                            refine lv_aload hx hb dX8_range_152 (lv_at hl 2 rfl) ?_
                            refine q_get C hP faj rfl inX7 1 (by decide) g1140 rfl dX8_range_154 ?_
                            refine lv_iload hx hb dX8_range_157 (lv_at hl 0 rfl) ?_
                            refine q_laldN C hP fvj (by omega) (by omega) dX8_range_159 ?_
                            have lw0 := lw
                            refine q_callS (rest := []) C (c_X8_insert l D cy N0 hv0 (ra 28) (rk 28) (rv 28) ((S j).1) (nI (S j).2.2.1) (nI (S j).2.2.2) rwj nW fW gW nW (Fj ii) (Gj ii) ⟨hRw.1, hRw.2.1, hRw.2.2.1, faw, fkw, fvw⟩ (by omega) (by omega)) kX8_insert g1282 g1283 hP hS (by first | decide | omega) hl.1 rfl (by decide) (by first | decide | omega) dX8_range_160 (fun q ce E h' H1 locs1 hE => hE.elim) (fun v hh11 H locs hq hP hS => ?_)
                            obtain ⟨rfl, rfl⟩ := hq
                            obtain ⟨hv7, ehv7⟩ : ∃ z : qH, z = qRh cy hv0 (ra 28) (rk 28) (rv 28) ((S j).1) (nI (nW + 1)) (nI (S j).2.2.1) (nI (S j).2.2.2) rwj (vp_updL (qSh fW nW nW) nW (Fj ii)) (vp_updL (qSh gW nW nW) nW (Gj ii)) := ⟨_, rfl⟩
                            rw [← ehv7] at hP
                            have r9 : qRw cy hv7 (ra 28) (rk 28) (rv 28) ((S j).1) (nI (nW + 1)) (nI (S j).2.2.1) (nI (S j).2.2.2) rwj (vp_updL (qSh fW nW nW) nW (Fj ii)) (vp_updL (qSh gW nW nW) nW (Gj ii)) := by rw [ehv7]; exact qRw.new (cy := cy) (h := hv0) (kd := (S j).1) (n := (nI nW)) (sm := (nI (S j).2.2.1)) (dp := (nI (S j).2.2.2)) (rw := rwj) (f := fW) (g := gW) ⟨hRw.1, hRw.2.1, hRw.2.2.1, faw, fkw, fvw⟩
                            have khv7 : ∀ b o, qOf (ra 28) (rk 28) (rv 28) b → hv0 b = some o → hv7 b = some o := by rw [ehv7]; exact fun b o q hb => (qRh_o q.1 q.2.1 q.2.2).trans hb
                            replace hY := khv7 _ _ ⟨fun q => by rw [q] at hY; have := faw.symm.trans hY; first | cases this | simp at this, fun q => by rw [q] at hY; have := fkw.symm.trans hY; first | cases this | simp at this, fun q => by rw [q] at hY; have := fvw.symm.trans hY; first | cases this | simp at this⟩ hY
                            replace hms := khv7 _ _ ⟨fun q => by rw [q] at hms; have := faw.symm.trans hms; first | cases this | simp at this, fun q => by rw [q] at hms; have := fkw.symm.trans hms; first | cases this | simp at this, fun q => by rw [q] at hms; have := fvw.symm.trans hms; first | cases this | simp at this⟩ hms
                            replace hmb := khv7 _ _ ⟨fun q => by rw [q] at hmb; have := faw.symm.trans hmb; first | cases this | simp at this, fun q => by rw [q] at hmb; have := fkw.symm.trans hmb; first | cases this | simp at this, fun q => by rw [q] at hmb; have := fvw.symm.trans hmb; first | cases this | simp at this⟩ hmb
                            replace faj := khv7 _ _ apj.1 faj
                            replace fkj := khv7 _ _ apj.2.1 fkj
                            replace fvj := khv7 _ _ apj.2.2 fvj
                            replace fr := fun b o hb n1 n2 => khv7 b o n2 (fr b o hb n1 n2)
                            clear faw fkw fvw
                            have faw := r9.2.2.2.1
                            have fkw := r9.2.2.2.2.1
                            have fvw := r9.2.2.2.2.2
                            unfold qRb at faw
                            unfold qJr at fkw fvw
                            clear r9 ehv7
                            replace lw : qLs ((S j).1) (vp_updL (qSh fW nW nW) nW (Fj ii)) (vp_updL (qSh gW nW nW) nW (Gj ii)) (nW + 1) = (xRg p2 p3 (qLs (S j).1 Fj Gj ii)).take nW ++ ((Fj ii), xV ((S j).1) (Gj ii)) :: (xRg p2 p3 (qLs (S j).1 Fj Gj ii)).drop nW := by rw [qLs_ins (by omega), lw]
                            refine lv_iinc (v := nI (ii + 1)) (lv' := [(9, .int (nI (ii + 1))), (8, .int (nI nj)), (7, .ref (ra j)), (0, .ref y), (1, .int (nI i)), (3, .long p2), (5, .long p3)]) hx hb dX8_range_163 hl (k := 0) rfl (nI_1 ii) (by decide) rfl (fun ls hl => ?_)
                            refine lv_goto (tgt := 99) hx hb dX8_range_166 (by decide) ?_
                            rw [List.take_of_length_le (by rw [← lw0, qLs_len]; omega), List.drop_of_length_le (by rw [← lw0, qLs_len]; omega)] at lw
                            exact ihl H locs ls hv7 _ _ (nW + 1) (ii + 1) (by omega) hY hms hmb faw fkw fvw faj fkj fvj fr (by rw [lw, qLs_succ]; unfold xRg; rw [List.filter_append]; congr 1; rw [List.filter_cons, if_pos (decide_eq_true ⟨show p2.toInt ≤ (Fj ii).toInt by omega, show (Fj ii).toInt < p3.toInt by omega⟩)]; rfl) ⟨by omega, by omega⟩ (lv_sub hl [0, 1, 2, 3, 4, 5, 6] rfl) hP hS
                  · replace c67 : 1 = 0 := (nI_eq (a := 1) (b := 0) (by omega) (by omega)).mp c67
                    exfalso; omega
                · rw [if_neg cf]
                  refine lv_iconst (v := nI 3) hx hb dX8_range_63 (by decide) ?_
                  refine q_callV (rest := []) C (c_X8_good0 l D cy N0 hv3 y ms mb (ra 28) od pt fi re rc rs so ot cn la ro gr 0 ca (nI m0) ct fau cs ce rn (nI 3) hY) kX8_good g1249 g1251 rfl gp41 g4 hP hS hY (by first | decide | omega) hl.1 rfl (by decide) (by first | decide | omega) dX8_range_64 (fun q ce E h' H1 locs1 hE => hE.elim) (fun v hh12 H locs hq hP hS => ?_)
                  obtain ⟨rfl, rfl⟩ := hq
                  replace hP : qP D N0 (qs hv3 y (.inr (8, [.ref ms, .ref mb, .ref (ra 28), .int gr, .int (nI 3), .int ca, .int (nI m0), .ref od, .ref pt, .int ct, .int fau, .ref fi, .ref re, .int cs, .ref rc, .ref rs, .ref so, .ref ot, .ref cn, .ref la, .int ce, .ref ro, .int rn]))) H := hP
                  obtain ⟨hv8, ehv8⟩ : ∃ z : qH, z = qs hv3 y (.inr (8, [.ref ms, .ref mb, .ref (ra 28), .int gr, .int (nI 3), .int ca, .int (nI m0), .ref od, .ref pt, .int ct, .int fau, .ref fi, .ref re, .int cs, .ref rc, .ref rs, .ref so, .ref ot, .ref cn, .ref la, .int ce, .ref ro, .int rn])) := ⟨_, rfl⟩
                  rw [← ehv8] at hP
                  have khv8 : ∀ b o, b ≠ y → hv3 b = some o → hv8 b = some o := by rw [ehv8]; exact fun b o nb hb => (qs_ne nb).trans hb
                  replace hms := khv8 _ _ (fun q => by subst q; have := hms.symm.trans hY; first | cases this | simp at this) hms
                  replace hmb := khv8 _ _ (fun q => by subst q; have := hmb.symm.trans hY; first | cases this | simp at this) hmb
                  replace faw := khv8 _ _ (fun q => by have z9 := faw; rw [q] at z9; have := z9.symm.trans hY; first | cases this | simp at this) faw
                  replace fkw := khv8 _ _ (fun q => by have z9 := fkw; rw [q] at z9; have := z9.symm.trans hY; first | cases this | simp at this) fkw
                  replace fvw := khv8 _ _ (fun q => by have z9 := fvw; rw [q] at z9; have := z9.symm.trans hY; first | cases this | simp at this) fvw
                  replace faj := khv8 _ _ (fun q => by have z9 := faj; rw [q] at z9; have := z9.symm.trans hY; first | cases this | simp at this) faj
                  replace fkj := khv8 _ _ (fun q => by have z9 := fkj; rw [q] at z9; have := z9.symm.trans hY; first | cases this | simp at this) fkj
                  replace fvj := khv8 _ _ (fun q => by have z9 := fvj; rw [q] at z9; have := z9.symm.trans hY; first | cases this | simp at this) fvj
                  replace hY : hv8 y = some (.inr (8, [.ref ms, .ref mb, .ref (ra 28), .int gr, .int (nI 3), .int ca, .int (nI m0), .ref od, .ref pt, .int ct, .int fau, .ref fi, .ref re, .int cs, .ref rc, .ref rs, .ref so, .ref ot, .ref cn, .ref la, .int ce, .ref ro, .int rn])) := by rw [ehv8]; exact qs_self
                  clear ehv8
                  replace fr := fun b o hb n1 n2 => khv8 b o n1 (fr b o hb n1 n2)
                  refine lv_if_ne (tgt := 72) hx hb dX8_range_67 (by decide) (fun c67 => ?_) (fun c67 => ?_)
                  · replace c67 : ¬ 0 = 0 := fun zq => c67 ((nI_eq (a := 0) (b := 0) (by omega) (by omega)).mpr zq)
                    exfalso; omega
                  · replace c67 : 0 = 0 := (nI_eq (a := 0) (b := 0) (by omega) (by omega)).mp c67
                    refine lv_iconst (v := nI 0) hx hb dX8_range_70 (by decide) ?_
                    have ex : xs_range S (nI i) (nI j) p2 p3 m0 = (3, S, 0, m0) := by (unfold xs_range; rw [if_neg (by simp [ebi, ebj]), ecj, if_neg (by simp [hoj]), eci]; unfold xr_range; rw [show (S j).2.1.length = nj from (by rw [hLj, qLs_len]), if_pos (by omega)])
                    obtain ⟨m9, f9⟩ := hM.fin0 hY0 (h' := hv8) ⟨hRw.1, hRw.2.1, hRw.2.2.1, faw, fkw, fvw⟩ fr
                    exact q_iret C hP hS ⟨by first | (rw [ex]; done) | (rw [ex]; rfl), by rw [ex]; exact hY, by first | exact m9 | (rw [ex]; exact m9), f9⟩ (by omega) dX8_range_71
              · replace c39 : 1 = 0 := (nI_eq (a := 1) (b := 0) (by omega) (by omega)).mp c39
                exfalso; omega
      · have ebj : bSl p1 = false := bSl_f sl9
        refine lv_if_eq (tgt := 19) hx hb dX8_range_12 (by decide) (fun c12 => ?_) (fun c12 => ?_)
        · replace c12 : 0 = 0 := (nI_eq (a := 0) (b := 0) (by omega) (by omega)).mp c12
          refine lv_iconst (v := nI 0) hx hb dX8_range_19 (by decide) ?_
          refine lv_iconst (v := nI 1) hx hb dX8_range_20 (by decide) ?_
          refine q_callV (rest := []) C (c_X8_good0 l D cy N0 h y ms mb (ra 28) od pt fi re rc rs so ot cn la ro gr cd ca (nI m0) ct fau cs ce rn (nI 1) hY) kX8_good g1249 g1251 rfl gp41 g4 hP hS hY (by first | decide | omega) hl.1 rfl (by decide) (by first | decide | omega) dX8_range_21 (fun q ce E h' H1 locs1 hE => hE.elim) (fun v hh13 H locs hq hP hS => ?_)
          obtain ⟨rfl, rfl⟩ := hq
          replace hP : qP D N0 (qs h y (.inr (8, [.ref ms, .ref mb, .ref (ra 28), .int gr, .int (nI 1), .int ca, .int (nI m0), .ref od, .ref pt, .int ct, .int fau, .ref fi, .ref re, .int cs, .ref rc, .ref rs, .ref so, .ref ot, .ref cn, .ref la, .int ce, .ref ro, .int rn]))) H := hP
          obtain ⟨hv9, ehv9⟩ : ∃ z : qH, z = qs h y (.inr (8, [.ref ms, .ref mb, .ref (ra 28), .int gr, .int (nI 1), .int ca, .int (nI m0), .ref od, .ref pt, .int ct, .int fau, .ref fi, .ref re, .int cs, .ref rc, .ref rs, .ref so, .ref ot, .ref cn, .ref la, .int ce, .ref ro, .int rn])) := ⟨_, rfl⟩
          rw [← ehv9] at hP
          have khv9 : ∀ b o, b ≠ y → h b = some o → hv9 b = some o := by rw [ehv9]; exact fun b o nb hb => (qs_ne nb).trans hb
          replace hms := khv9 _ _ (fun q => by subst q; have := hms.symm.trans hY; first | cases this | simp at this) hms
          replace hmb := khv9 _ _ (fun q => by subst q; have := hmb.symm.trans hY; first | cases this | simp at this) hmb
          replace faw := khv9 _ _ (fun q => by have z9 := faw; rw [q] at z9; have := z9.symm.trans hY; first | cases this | simp at this) faw
          replace fkw := khv9 _ _ (fun q => by have z9 := fkw; rw [q] at z9; have := z9.symm.trans hY; first | cases this | simp at this) fkw
          replace fvw := khv9 _ _ (fun q => by have z9 := fvw; rw [q] at z9; have := z9.symm.trans hY; first | cases this | simp at this) fvw
          replace hY : hv9 y = some (.inr (8, [.ref ms, .ref mb, .ref (ra 28), .int gr, .int (nI 1), .int ca, .int (nI m0), .ref od, .ref pt, .int ct, .int fau, .ref fi, .ref re, .int cs, .ref rc, .ref rs, .ref so, .ref ot, .ref cn, .ref la, .int ce, .ref ro, .int rn])) := by rw [ehv9]; exact qs_self
          clear ehv9
          replace fr := fun b o hb n1 n2 => khv9 b o n1 (fr b o hb n1 n2)
          refine lv_if_eq (tgt := 42) hx hb dX8_range_24 (by decide) (fun c24 => ?_) (fun c24 => ?_)
          · replace c24 : 0 = 0 := (nI_eq (a := 0) (b := 0) (by omega) (by omega)).mp c24
            refine lv_iconst (v := nI 0) hx hb dX8_range_42 (by decide) ?_
            have ex : xs_range S (nI i) p1 p2 p3 m0 = (1, S, 0, m0) := by (unfold xs_range; rw [if_pos (by simp [ebi, ebj])])
            obtain ⟨m9, f9⟩ := hM.fin0 hY0 (h' := hv9) ⟨hRw.1, hRw.2.1, hRw.2.2.1, faw, fkw, fvw⟩ fr
            exact q_iret C hP hS ⟨by first | (rw [ex]; done) | (rw [ex]; rfl), by rw [ex]; exact hY, by first | exact m9 | (rw [ex]; exact m9), f9⟩ (by omega) dX8_range_43
          · replace c24 : ¬ 0 = 0 := fun zq => c24 ((nI_eq (a := 0) (b := 0) (by omega) (by omega)).mpr zq)
            exfalso; omega
        · replace c12 : ¬ 0 = 0 := fun zq => c12 ((nI_eq (a := 0) (b := 0) (by omega) (by omega)).mpr zq)
          exfalso; omega
  · have ebi : bSl p0 = false := bSl_f sl9
    refine lv_if_eq (tgt := 19) hx hb dX8_range_5 (by decide) (fun c5 => ?_) (fun c5 => ?_)
    · replace c5 : 0 = 0 := (nI_eq (a := 0) (b := 0) (by omega) (by omega)).mp c5
      refine lv_iconst (v := nI 0) hx hb dX8_range_19 (by decide) ?_
      refine lv_iconst (v := nI 1) hx hb dX8_range_20 (by decide) ?_
      refine q_callV (rest := []) C (c_X8_good0 l D cy N0 h y ms mb (ra 28) od pt fi re rc rs so ot cn la ro gr cd ca (nI m0) ct fau cs ce rn (nI 1) hY) kX8_good g1249 g1251 rfl gp41 g4 hP hS hY (by first | decide | omega) hl.1 rfl (by decide) (by first | decide | omega) dX8_range_21 (fun q ce E h' H1 locs1 hE => hE.elim) (fun v hh14 H locs hq hP hS => ?_)
      obtain ⟨rfl, rfl⟩ := hq
      replace hP : qP D N0 (qs h y (.inr (8, [.ref ms, .ref mb, .ref (ra 28), .int gr, .int (nI 1), .int ca, .int (nI m0), .ref od, .ref pt, .int ct, .int fau, .ref fi, .ref re, .int cs, .ref rc, .ref rs, .ref so, .ref ot, .ref cn, .ref la, .int ce, .ref ro, .int rn]))) H := hP
      obtain ⟨hv10, ehv10⟩ : ∃ z : qH, z = qs h y (.inr (8, [.ref ms, .ref mb, .ref (ra 28), .int gr, .int (nI 1), .int ca, .int (nI m0), .ref od, .ref pt, .int ct, .int fau, .ref fi, .ref re, .int cs, .ref rc, .ref rs, .ref so, .ref ot, .ref cn, .ref la, .int ce, .ref ro, .int rn])) := ⟨_, rfl⟩
      rw [← ehv10] at hP
      have khv10 : ∀ b o, b ≠ y → h b = some o → hv10 b = some o := by rw [ehv10]; exact fun b o nb hb => (qs_ne nb).trans hb
      replace hms := khv10 _ _ (fun q => by subst q; have := hms.symm.trans hY; first | cases this | simp at this) hms
      replace hmb := khv10 _ _ (fun q => by subst q; have := hmb.symm.trans hY; first | cases this | simp at this) hmb
      replace faw := khv10 _ _ (fun q => by have z9 := faw; rw [q] at z9; have := z9.symm.trans hY; first | cases this | simp at this) faw
      replace fkw := khv10 _ _ (fun q => by have z9 := fkw; rw [q] at z9; have := z9.symm.trans hY; first | cases this | simp at this) fkw
      replace fvw := khv10 _ _ (fun q => by have z9 := fvw; rw [q] at z9; have := z9.symm.trans hY; first | cases this | simp at this) fvw
      replace hY : hv10 y = some (.inr (8, [.ref ms, .ref mb, .ref (ra 28), .int gr, .int (nI 1), .int ca, .int (nI m0), .ref od, .ref pt, .int ct, .int fau, .ref fi, .ref re, .int cs, .ref rc, .ref rs, .ref so, .ref ot, .ref cn, .ref la, .int ce, .ref ro, .int rn])) := by rw [ehv10]; exact qs_self
      clear ehv10
      replace fr := fun b o hb n1 n2 => khv10 b o n1 (fr b o hb n1 n2)
      refine lv_if_eq (tgt := 42) hx hb dX8_range_24 (by decide) (fun c24 => ?_) (fun c24 => ?_)
      · replace c24 : 0 = 0 := (nI_eq (a := 0) (b := 0) (by omega) (by omega)).mp c24
        refine lv_iconst (v := nI 0) hx hb dX8_range_42 (by decide) ?_
        have ex : xs_range S p0 p1 p2 p3 m0 = (1, S, 0, m0) := by (unfold xs_range; rw [if_pos (by simp [ebi])])
        obtain ⟨m9, f9⟩ := hM.fin0 hY0 (h' := hv10) ⟨hRw.1, hRw.2.1, hRw.2.2.1, faw, fkw, fvw⟩ fr
        exact q_iret C hP hS ⟨by first | (rw [ex]; done) | (rw [ex]; rfl), by rw [ex]; exact hY, by first | exact m9 | (rw [ex]; exact m9), f9⟩ (by omega) dX8_range_43
      · replace c24 : ¬ 0 = 0 := fun zq => c24 ((nI_eq (a := 0) (b := 0) (by omega) (by omega)).mpr zq)
        exfalso; omega
    · replace c5 : ¬ 0 = 0 := fun zq => c5 ((nI_eq (a := 0) (b := 0) (by omega) (by omega)).mpr zq)
      exfalso; omega

theorem dX8_meet_44 : decode cX8_meet 44 = .ok (.aload_n 0, 1) := by decide +kernel
theorem dX8_meet_45 : decode cX8_meet 45 = .ok (.iload_n 3, 1) := by decide +kernel
theorem dX8_meet_46 : decode cX8_meet 46 = .ok (.iconst 4, 1) := by decide +kernel
theorem dX8_meet_47 : decode cX8_meet 47 = .ok (.invokevirtual 108, 3) := by decide +kernel
theorem dX8_meet_50 : decode cX8_meet 50 = .ok (.ifCond .eq 7, 3) := by decide +kernel
theorem dX8_meet_53 : decode cX8_meet 53 = .ok (.iconst 1, 1) := by decide +kernel
theorem dX8_meet_54 : decode cX8_meet 54 = .ok (.goto 4, 3) := by decide +kernel
theorem dX8_meet_65 : decode cX8_meet 65 = .ok (.aload_n 0, 1) := by decide +kernel
theorem dX8_meet_66 : decode cX8_meet 66 = .ok (.aload_n 0, 1) := by decide +kernel
theorem dX8_meet_67 : decode cX8_meet 67 = .ok (.iconst 0, 1) := by decide +kernel
theorem dX8_meet_68 : decode cX8_meet 68 = .ok (.aload_n 0, 1) := by decide +kernel
theorem dX8_meet_69 : decode cX8_meet 69 = .ok (.getfield 9, 3) := by decide +kernel
theorem dX8_meet_72 : decode cX8_meet 72 = .ok (.iload_n 2, 1) := by decide +kernel
theorem dX8_meet_73 : decode cX8_meet 73 = .ok (.aaload, 1) := by decide +kernel
theorem dX8_meet_74 : decode cX8_meet 74 = .ok (.getfield 78, 3) := by decide +kernel
theorem dX8_meet_77 : decode cX8_meet 77 = .ok (.invokevirtual 165, 3) := by decide +kernel
theorem dX8_meet_80 : decode cX8_meet 80 = .ok (.iconst 3, 1) := by decide +kernel
theorem dX8_meet_81 : decode cX8_meet 81 = .ok (.invokevirtual 100, 3) := by decide +kernel
theorem dX8_meet_84 : decode cX8_meet 84 = .ok (.ifCond .ne 5, 3) := by decide +kernel
theorem dX8_meet_89 : decode cX8_meet 89 = .ok (.aload_n 0, 1) := by decide +kernel
theorem dX8_meet_90 : decode cX8_meet 90 = .ok (.getfield 9, 3) := by decide +kernel
theorem dX8_meet_93 : decode cX8_meet 93 = .ok (.iload_n 2, 1) := by decide +kernel
theorem dX8_meet_94 : decode cX8_meet 94 = .ok (.aaload, 1) := by decide +kernel
theorem dX8_meet_95 : decode cX8_meet 95 = .ok (.getfield 78, 3) := by decide +kernel
theorem dX8_meet_98 : decode cX8_meet 98 = .ok (.istore 5, 2) := by decide +kernel
theorem dX8_meet_100 : decode cX8_meet 100 = .ok (.aload_n 0, 1) := by decide +kernel
theorem dX8_meet_101 : decode cX8_meet 101 = .ok (.getfield 9, 3) := by decide +kernel
theorem dX8_meet_104 : decode cX8_meet 104 = .ok (.iload_n 2, 1) := by decide +kernel
theorem dX8_meet_105 : decode cX8_meet 105 = .ok (.aaload, 1) := by decide +kernel
theorem dX8_meet_106 : decode cX8_meet 106 = .ok (.aload_n 0, 1) := by decide +kernel
theorem dX8_meet_107 : decode cX8_meet 107 = .ok (.getfield 19, 3) := by decide +kernel
theorem dX8_meet_110 : decode cX8_meet 110 = .ok (.invokestatic 104, 3) := by decide +kernel
theorem dX8_meet_113 : decode cX8_meet 113 = .ok (.aload_n 0, 1) := by decide +kernel
theorem dX8_meet_114 : decode cX8_meet 114 = .ok (.getfield 19, 3) := by decide +kernel
theorem dX8_meet_117 : decode cX8_meet 117 = .ok (.getfield 78, 3) := by decide +kernel
theorem dX8_meet_120 : decode cX8_meet 120 = .ok (.iconst 1, 1) := by decide +kernel
theorem dX8_meet_121 : decode cX8_meet 121 = .ok (.isub, 1) := by decide +kernel
theorem dX8_meet_122 : decode cX8_meet 122 = .ok (.istore 6, 2) := by decide +kernel
theorem dX8_meet_124 : decode cX8_meet 124 = .ok (.iload 6, 2) := by decide +kernel
theorem dX8_meet_126 : decode cX8_meet 126 = .ok (.ifCond .lt 50, 3) := by decide +kernel
theorem dX8_meet_129 : decode cX8_meet 129 = .ok (.aload_n 0, 1) := by decide +kernel
theorem dX8_meet_130 : decode cX8_meet 130 = .ok (.getfield 9, 3) := by decide +kernel
theorem dX8_meet_133 : decode cX8_meet 133 = .ok (.iload_n 3, 1) := by decide +kernel
theorem dX8_meet_134 : decode cX8_meet 134 = .ok (.aaload, 1) := by decide +kernel
theorem dX8_meet_135 : decode cX8_meet 135 = .ok (.aload_n 0, 1) := by decide +kernel
theorem dX8_meet_136 : decode cX8_meet 136 = .ok (.getfield 19, 3) := by decide +kernel
theorem dX8_meet_139 : decode cX8_meet 139 = .ok (.getfield 90, 3) := by decide +kernel
theorem dX8_meet_142 : decode cX8_meet 142 = .ok (.iload 6, 2) := by decide +kernel
theorem dX8_meet_144 : decode cX8_meet 144 = .ok (.laload, 1) := by decide +kernel
theorem dX8_meet_145 : decode cX8_meet 145 = .ok (.invokestatic 112, 3) := by decide +kernel
theorem dX8_meet_148 : decode cX8_meet 148 = .ok (.ifCond .lt 7, 3) := by decide +kernel
theorem dX8_meet_151 : decode cX8_meet 151 = .ok (.iconst 1, 1) := by decide +kernel
theorem dX8_meet_152 : decode cX8_meet 152 = .ok (.goto 4, 3) := by decide +kernel
theorem dX8_meet_155 : decode cX8_meet 155 = .ok (.iconst 0, 1) := by decide +kernel
theorem dX8_meet_156 : decode cX8_meet 156 = .ok (.iload 4, 2) := by decide +kernel
theorem dX8_meet_158 : decode cX8_meet 158 = .ok (.if_icmp .ne 12, 3) := by decide +kernel
theorem dX8_meet_161 : decode cX8_meet 161 = .ok (.aload_n 0, 1) := by decide +kernel
theorem dX8_meet_162 : decode cX8_meet 162 = .ok (.getfield 19, 3) := by decide +kernel
theorem dX8_meet_165 : decode cX8_meet 165 = .ok (.iload 6, 2) := by decide +kernel
theorem dX8_meet_167 : decode cX8_meet 167 = .ok (.invokestatic 161, 3) := by decide +kernel
theorem dX8_meet_170 : decode cX8_meet 170 = .ok (.iinc 6 (-1), 3) := by decide +kernel
theorem dX8_meet_173 : decode cX8_meet 173 = .ok (.goto (-49), 3) := by decide +kernel
theorem dX8_meet_176 : decode cX8_meet 176 = .ok (.aload_n 0, 1) := by decide +kernel
theorem dX8_meet_177 : decode cX8_meet 177 = .ok (.iload_n 1, 1) := by decide +kernel
theorem dX8_meet_178 : decode cX8_meet 178 = .ok (.iload 5, 2) := by decide +kernel
theorem dX8_meet_180 : decode cX8_meet 180 = .ok (.invokevirtual 135, 3) := by decide +kernel
theorem dX8_meet_183 : decode cX8_meet 183 = .ok (.ireturn, 1) := by decide +kernel
set_option maxRecDepth 100000 in
set_option maxHeartbeats 4000000 in
theorem c_X8_meet (l : Launch) (D : va_G) (cy : Nat → ClassId) (N0 : Nat) (h : qH) (m0 : Nat) (y ms mb mw od pt fi re rc rs so ot cn la ro : Nat) (gr cd ca ct fau cs ce rn : Int32) (ra rk rv : Nat → Nat) (S : Nat → qSlot) (p0 p1 p2 p3 : Int32) (hY : h y = some (.inr (8, [.ref ms, .ref mb, .ref mw, .int gr, .int cd, .int ca, .int (nI m0), .ref od, .ref pt, .int ct, .int fau, .ref fi, .ref re, .int cs, .ref rc, .ref rs, .ref so, .ref ot, .ref cn, .ref la, .int ce, .ref ro, .int rn]))) (hM : qMR cy h ms mb mw ra rk rv S) (hI : ∀ i, i < 28 → qOk (S i).1 (S i).2.1) (hm0 : m0 ≤ 20000) : qC l D cy N0 yX8_meet cX8_meet 7 (some .int) 2 60 0 0 [.ref y, .int p0, .int p1, .int p2, .int p3] h (fun v h' => v = some (.int (xs_meet S p0 p1 p2 p3 m0).2.2.1) ∧ h' y = some (.inr (8, [.ref ms, .ref mb, .ref mw, .int gr, .int (xs_meet S p0 p1 p2 p3 m0).1, .int ca, .int (nI (xs_meet S p0 p1 p2 p3 m0).2.2.2), .ref od, .ref pt, .int ct, .int fau, .ref fi, .ref re, .int cs, .ref rc, .ref rs, .ref so, .ref ot, .ref cn, .ref la, .int ce, .ref ro, .int rn])) ∧ qMR cy h' ms mb mw ra rk rv ((xs_meet S p0 p1 p2 p3 m0).2.1) ∧ qFm h h' y ra rk rv) (fun E h' => False) := by
  refine q_ofW (by decide) (by exact Nat.le_of_ble_eq_true rfl) ?_
  intro p e s m below meth c ls C hP hl
  have hx := C.1
  have hb := C.2.1
  have hS : va_S (qA N0) s.heap s.heap [] := va_S.rf
  have hl : lv_has ls 7 [(0, .ref y), (1, .int p0), (2, .int p1), (3, .int p2), (4, .int p3)] := hl
  have hle : qle h h := qle_rf
  have hY0 := hY
  obtain ⟨hms, hmb, hmw, hmd, hrs, kdw, smw, dpw, rww, nw, fw, gw, hRw⟩ := id hM
  subst hmw
  have fr : ∀ b o, h b = some o → b ≠ y → qOf (ra 28) (rk 28) (rv 28) b → h b = some o := fun b o hb _ _ => hb
  have faw := hRw.2.2.2.1
  have fkw := hRw.2.2.2.2.1
  have fvw := hRw.2.2.2.2.2
  unfold qRb at faw
  unfold qJr at fkw fvw
  refine lv_aload_n hx hb dX8_meet_0 rfl (lv_at hl 0 rfl) ?_
  refine lv_iload_n hx hb dX8_meet_1 rfl (lv_at hl 1 rfl) ?_
  refine q_callS (rest := [.ref y]) C (c_X8_isSlot l D cy N0 h p0) kX8_isSlot g1246 g1247 hP hS (by first | decide | omega) hl.1 rfl (by simp [q_catrf, q_cati, q_catl, q_cata, q_catn]) (by first | decide | omega) dX8_meet_2 (fun q ce E h' H1 locs1 hE => hE.elim) (fun v hh1 H locs hq hP hS => ?_)
  obtain ⟨rfl, ⟨rfl, sl9⟩ | ⟨rfl, sl9⟩⟩ := hq
  · obtain ⟨i, hi, rfl⟩ := sl9.of
    have ebi : bSl (nI i) = true := bSl_t sl9
    have eci : (nI i).toNatClampNeg = i := nI_clamp (by omega)
    refine lv_if_eq (tgt := 26) hx hb dX8_meet_5 (by decide) (fun c5 => ?_) (fun c5 => ?_)
    · replace c5 : 1 = 0 := (nI_eq (a := 1) (b := 0) (by omega) (by omega)).mp c5
      exfalso; omega
    · replace c5 : ¬ 1 = 0 := fun zq => c5 ((nI_eq (a := 1) (b := 0) (by omega) (by omega)).mpr zq)
      refine lv_iload_n hx hb dX8_meet_8 rfl (lv_at hl 2 rfl) ?_
      refine q_callS (rest := [.ref y]) C (c_X8_isSlot l D cy N0 h p1) kX8_isSlot g1246 g1247 hP hS (by first | decide | omega) hl.1 rfl (by simp [q_catrf, q_cati, q_catl, q_cata, q_catn]) (by first | decide | omega) dX8_meet_9 (fun q ce E h' H1 locs1 hE => hE.elim) (fun v hh2 H locs hq hP hS => ?_)
      obtain ⟨rfl, ⟨rfl, sl9⟩ | ⟨rfl, sl9⟩⟩ := hq
      · obtain ⟨j, hj, rfl⟩ := sl9.of
        have ebj : bSl (nI j) = true := bSl_t sl9
        have ecj : (nI j).toNatClampNeg = j := nI_clamp (by omega)
        refine lv_if_eq (tgt := 26) hx hb dX8_meet_12 (by decide) (fun c12 => ?_) (fun c12 => ?_)
        · replace c12 : 1 = 0 := (nI_eq (a := 1) (b := 0) (by omega) (by omega)).mp c12
          exfalso; omega
        · replace c12 : ¬ 1 = 0 := fun zq => c12 ((nI_eq (a := 1) (b := 0) (by omega) (by omega)).mpr zq)
          refine lv_iload_n hx hb dX8_meet_15 rfl (lv_at hl 3 rfl) ?_
          refine q_callS (rest := [.ref y]) C (c_X8_isSlot l D cy N0 h p2) kX8_isSlot g1246 g1247 hP hS (by first | decide | omega) hl.1 rfl (by simp [q_catrf, q_cati, q_catl, q_cata, q_catn]) (by first | decide | omega) dX8_meet_16 (fun q ce E h' H1 locs1 hE => hE.elim) (fun v hh3 H locs hq hP hS => ?_)
          obtain ⟨rfl, ⟨rfl, sl9⟩ | ⟨rfl, sl9⟩⟩ := hq
          · obtain ⟨k, hk, rfl⟩ := sl9.of
            have ebk : bSl (nI k) = true := bSl_t sl9
            have eck : (nI k).toNatClampNeg = k := nI_clamp (by omega)
            refine lv_if_eq (tgt := 26) hx hb dX8_meet_19 (by decide) (fun c19 => ?_) (fun c19 => ?_)
            · replace c19 : 1 = 0 := (nI_eq (a := 1) (b := 0) (by omega) (by omega)).mp c19
              exfalso; omega
            · replace c19 : ¬ 1 = 0 := fun zq => c19 ((nI_eq (a := 1) (b := 0) (by omega) (by omega)).mpr zq)
              refine lv_iconst (v := nI 1) hx hb dX8_meet_22 (by decide) ?_
              refine lv_goto (tgt := 27) hx hb dX8_meet_23 (by decide) ?_
              refine lv_iconst (v := nI 1) hx hb dX8_meet_27 (by decide) ?_
              refine q_callV (rest := []) C (c_X8_good1 l D cy N0 h y ms mb (ra 28) od pt fi re rc rs so ot cn la ro gr cd ca (nI m0) ct fau cs ce rn (nI 1) hY) kX8_good g1249 g1251 rfl gp41 g4 hP hS hY (by first | decide | omega) hl.1 rfl (by decide) (by first | decide | omega) dX8_meet_28 (fun q ce E h' H1 locs1 hE => hE.elim) (fun v hh4 H locs hq hP hS => ?_)
              obtain ⟨rfl, rfl⟩ := hq
              replace hP : qP D N0 (qs h y (.inr (8, [.ref ms, .ref mb, .ref (ra 28), .int gr, .int 0, .int ca, .int (nI m0), .ref od, .ref pt, .int ct, .int fau, .ref fi, .ref re, .int cs, .ref rc, .ref rs, .ref so, .ref ot, .ref cn, .ref la, .int ce, .ref ro, .int rn]))) H := hP
              obtain ⟨hv1, ehv1⟩ : ∃ z : qH, z = qs h y (.inr (8, [.ref ms, .ref mb, .ref (ra 28), .int gr, .int 0, .int ca, .int (nI m0), .ref od, .ref pt, .int ct, .int fau, .ref fi, .ref re, .int cs, .ref rc, .ref rs, .ref so, .ref ot, .ref cn, .ref la, .int ce, .ref ro, .int rn])) := ⟨_, rfl⟩
              rw [← ehv1] at hP
              have khv1 : ∀ b o, b ≠ y → h b = some o → hv1 b = some o := by rw [ehv1]; exact fun b o nb hb => (qs_ne nb).trans hb
              replace hms := khv1 _ _ (fun q => by subst q; have := hms.symm.trans hY; first | cases this | simp at this) hms
              replace hmb := khv1 _ _ (fun q => by subst q; have := hmb.symm.trans hY; first | cases this | simp at this) hmb
              replace faw := khv1 _ _ (fun q => by have z9 := faw; rw [q] at z9; have := z9.symm.trans hY; first | cases this | simp at this) faw
              replace fkw := khv1 _ _ (fun q => by have z9 := fkw; rw [q] at z9; have := z9.symm.trans hY; first | cases this | simp at this) fkw
              replace fvw := khv1 _ _ (fun q => by have z9 := fvw; rw [q] at z9; have := z9.symm.trans hY; first | cases this | simp at this) fvw
              replace hY : hv1 y = some (.inr (8, [.ref ms, .ref mb, .ref (ra 28), .int gr, .int 0, .int ca, .int (nI m0), .ref od, .ref pt, .int ct, .int fau, .ref fi, .ref re, .int cs, .ref rc, .ref rs, .ref so, .ref ot, .ref cn, .ref la, .int ce, .ref ro, .int rn])) := by rw [ehv1]; exact qs_self
              clear ehv1
              replace fr := fun b o hb n1 n2 => khv1 b o n1 (fr b o hb n1 n2)
              refine lv_if_eq (tgt := 87) hx hb dX8_meet_31 (by decide) (fun c31 => ?_) (fun c31 => ?_)
              · replace c31 : 1 = 0 := (nI_eq (a := 1) (b := 0) (by omega) (by omega)).mp c31
                exfalso; omega
              · replace c31 : ¬ 1 = 0 := fun zq => c31 ((nI_eq (a := 1) (b := 0) (by omega) (by omega)).mpr zq)
                refine lv_aload_n hx hb dX8_meet_34 rfl (lv_at hl 0 rfl) ?_
                refine lv_aload_n hx hb dX8_meet_35 rfl (lv_at hl 0 rfl) ?_
                refine lv_iload_n hx hb dX8_meet_36 rfl (lv_at hl 2 rfl) ?_
                refine lv_iconst (v := nI 4) hx hb dX8_meet_37 (by decide) ?_
                obtain ⟨nj, rwj, Fj, Gj, hRj, hnj, hLj, hKj⟩ := hrs j (by omega)
                have apj := hRj.apart hRw (hmd.two (i := j) (j := 28) (by omega) (by omega) (by omega))
                replace hRj := hRj.keep2 (fun b o hb ho => fr b o ho (hRj.ney hY0 hb) (hb.elim (fun q => q ▸ apj.1) (fun hb => hb.elim (fun q => q ▸ apj.2.1) (fun q => q ▸ apj.2.2))))
                have faj := hRj.2.2.2.1
                have fkj := hRj.2.2.2.2.1
                have fvj := hRj.2.2.2.2.2
                unfold qRb at faj
                unfold qJr at fkj fvj
                refine q_callV (rest := [.ref y]) C (c_X8_holds l D cy N0 hv1 y ms ra rk rv j 4 _ _ _ _ _ _ _ _ hY rfl hms ⟨hRj.1, hRj.2.1, hRj.2.2.1, faj, fkj, fvj⟩ (by omega)) kX8_holds g1264 g1266 rfl gp42 g4 hP hS hY (by first | decide | omega) hl.1 rfl (by simp [q_catrf, q_cati, q_catl, q_cata, q_catn]) (by first | decide | omega) dX8_meet_38 (fun q ce E h' H1 locs1 hE => hE.elim) (fun v hh5 H locs hq hP hS => ?_)
                obtain ⟨rfl, rfl⟩ := hq
                cases hoj : bHo (S j).1 4 with
                | false =>
                  refine lv_if_eq (tgt := 57) hx hb dX8_meet_41 (by decide) (fun c41 => ?_) (fun c41 => ?_)
                  · replace c41 : 0 = 0 := (nI_eq (a := 0) (b := 0) (by omega) (by omega)).mp c41
                    refine lv_iconst (v := nI 0) hx hb dX8_meet_57 (by decide) ?_
                    refine lv_iconst (v := nI 2) hx hb dX8_meet_58 (by decide) ?_
                    refine q_callV (rest := []) C (c_X8_good0 l D cy N0 hv1 y ms mb (ra 28) od pt fi re rc rs so ot cn la ro gr 0 ca (nI m0) ct fau cs ce rn (nI 2) hY) kX8_good g1249 g1251 rfl gp41 g4 hP hS hY (by first | decide | omega) hl.1 rfl (by decide) (by first | decide | omega) dX8_meet_59 (fun q ce E h' H1 locs1 hE => hE.elim) (fun v hh6 H locs hq hP hS => ?_)
                    obtain ⟨rfl, rfl⟩ := hq
                    replace hP : qP D N0 (qs hv1 y (.inr (8, [.ref ms, .ref mb, .ref (ra 28), .int gr, .int (nI 2), .int ca, .int (nI m0), .ref od, .ref pt, .int ct, .int fau, .ref fi, .ref re, .int cs, .ref rc, .ref rs, .ref so, .ref ot, .ref cn, .ref la, .int ce, .ref ro, .int rn]))) H := hP
                    obtain ⟨hv2, ehv2⟩ : ∃ z : qH, z = qs hv1 y (.inr (8, [.ref ms, .ref mb, .ref (ra 28), .int gr, .int (nI 2), .int ca, .int (nI m0), .ref od, .ref pt, .int ct, .int fau, .ref fi, .ref re, .int cs, .ref rc, .ref rs, .ref so, .ref ot, .ref cn, .ref la, .int ce, .ref ro, .int rn])) := ⟨_, rfl⟩
                    rw [← ehv2] at hP
                    have khv2 : ∀ b o, b ≠ y → hv1 b = some o → hv2 b = some o := by rw [ehv2]; exact fun b o nb hb => (qs_ne nb).trans hb
                    replace hms := khv2 _ _ (fun q => by subst q; have := hms.symm.trans hY; first | cases this | simp at this) hms
                    replace hmb := khv2 _ _ (fun q => by subst q; have := hmb.symm.trans hY; first | cases this | simp at this) hmb
                    replace faw := khv2 _ _ (fun q => by have z9 := faw; rw [q] at z9; have := z9.symm.trans hY; first | cases this | simp at this) faw
                    replace fkw := khv2 _ _ (fun q => by have z9 := fkw; rw [q] at z9; have := z9.symm.trans hY; first | cases this | simp at this) fkw
                    replace fvw := khv2 _ _ (fun q => by have z9 := fvw; rw [q] at z9; have := z9.symm.trans hY; first | cases this | simp at this) fvw
                    replace faj := khv2 _ _ (fun q => by have z9 := faj; rw [q] at z9; have := z9.symm.trans hY; first | cases this | simp at this) faj
                    replace fkj := khv2 _ _ (fun q => by have z9 := fkj; rw [q] at z9; have := z9.symm.trans hY; first | cases this | simp at this) fkj
                    replace fvj := khv2 _ _ (fun q => by have z9 := fvj; rw [q] at z9; have := z9.symm.trans hY; first | cases this | simp at this) fvj
                    replace hY : hv2 y = some (.inr (8, [.ref ms, .ref mb, .ref (ra 28), .int gr, .int (nI 2), .int ca, .int (nI m0), .ref od, .ref pt, .int ct, .int fau, .ref fi, .ref re, .int cs, .ref rc, .ref rs, .ref so, .ref ot, .ref cn, .ref la, .int ce, .ref ro, .int rn])) := by rw [ehv2]; exact qs_self
                    clear ehv2
                    replace fr := fun b o hb n1 n2 => khv2 b o n1 (fr b o hb n1 n2)
                    refine lv_if_eq (tgt := 87) hx hb dX8_meet_62 (by decide) (fun c62 => ?_) (fun c62 => ?_)
                    · replace c62 : 0 = 0 := (nI_eq (a := 0) (b := 0) (by omega) (by omega)).mp c62
                      refine lv_iconst (v := nI 0) hx hb dX8_meet_87 (by decide) ?_
                      have ex : xs_meet S (nI i) (nI j) (nI k) p3 m0 = (2, S, 0, m0) := by (unfold xs_meet; rw [if_neg (by simp [ebi, ebj, ebk]), ecj, eck, if_pos (by simp [hoj])])
                      obtain ⟨m9, f9⟩ := hM.fin0 hY0 (h' := hv2) ⟨hRw.1, hRw.2.1, hRw.2.2.1, faw, fkw, fvw⟩ fr
                      exact q_iret C hP hS ⟨by first | (rw [ex]; done) | (rw [ex]; rfl), by rw [ex]; exact hY, by first | exact m9 | (rw [ex]; exact m9), f9⟩ (by omega) dX8_meet_88
                    · replace c62 : ¬ 0 = 0 := fun zq => c62 ((nI_eq (a := 0) (b := 0) (by omega) (by omega)).mpr zq)
                      exfalso; omega
                  · replace c41 : ¬ 0 = 0 := fun zq => c41 ((nI_eq (a := 0) (b := 0) (by omega) (by omega)).mpr zq)
                    exfalso; omega
                | true =>
                  refine lv_if_eq (tgt := 57) hx hb dX8_meet_41 (by decide) (fun c41 => ?_) (fun c41 => ?_)
                  · replace c41 : 1 = 0 := (nI_eq (a := 1) (b := 0) (by omega) (by omega)).mp c41
                    exfalso; omega
                  · replace c41 : ¬ 1 = 0 := fun zq => c41 ((nI_eq (a := 1) (b := 0) (by omega) (by omega)).mpr zq)
                    refine lv_aload_n hx hb dX8_meet_44 rfl (lv_at hl 0 rfl) ?_
                    refine lv_iload_n hx hb dX8_meet_45 rfl (lv_at hl 3 rfl) ?_
                    refine lv_iconst (v := nI 4) hx hb dX8_meet_46 (by decide) ?_
                    obtain ⟨nk, rwk, Fk, Gk, hRk, hnk, hLk, hKk⟩ := hrs k (by omega)
                    have apk := hRk.apart hRw (hmd.two (i := k) (j := 28) (by omega) (by omega) (by omega))
                    replace hRk := hRk.keep2 (fun b o hb ho => fr b o ho (hRk.ney hY0 hb) (hb.elim (fun q => q ▸ apk.1) (fun hb => hb.elim (fun q => q ▸ apk.2.1) (fun q => q ▸ apk.2.2))))
                    have fak := hRk.2.2.2.1
                    have fkk := hRk.2.2.2.2.1
                    have fvk := hRk.2.2.2.2.2
                    unfold qRb at fak
                    unfold qJr at fkk fvk
                    refine q_callV (rest := [.ref y]) C (c_X8_holds l D cy N0 hv1 y ms ra rk rv k 4 _ _ _ _ _ _ _ _ hY rfl hms ⟨hRk.1, hRk.2.1, hRk.2.2.1, fak, fkk, fvk⟩ (by omega)) kX8_holds g1264 g1266 rfl gp42 g4 hP hS hY (by first | decide | omega) hl.1 rfl (by simp [q_catrf, q_cati, q_catl, q_cata, q_catn]) (by first | decide | omega) dX8_meet_47 (fun q ce E h' H1 locs1 hE => hE.elim) (fun v hh7 H locs hq hP hS => ?_)
                    obtain ⟨rfl, rfl⟩ := hq
                    cases hok : bHo (S k).1 4 with
                    | false =>
                      refine lv_if_eq (tgt := 57) hx hb dX8_meet_50 (by decide) (fun c50 => ?_) (fun c50 => ?_)
                      · replace c50 : 0 = 0 := (nI_eq (a := 0) (b := 0) (by omega) (by omega)).mp c50
                        refine lv_iconst (v := nI 0) hx hb dX8_meet_57 (by decide) ?_
                        refine lv_iconst (v := nI 2) hx hb dX8_meet_58 (by decide) ?_
                        refine q_callV (rest := []) C (c_X8_good0 l D cy N0 hv1 y ms mb (ra 28) od pt fi re rc rs so ot cn la ro gr 0 ca (nI m0) ct fau cs ce rn (nI 2) hY) kX8_good g1249 g1251 rfl gp41 g4 hP hS hY (by first | decide | omega) hl.1 rfl (by decide) (by first | decide | omega) dX8_meet_59 (fun q ce E h' H1 locs1 hE => hE.elim) (fun v hh8 H locs hq hP hS => ?_)
                        obtain ⟨rfl, rfl⟩ := hq
                        replace hP : qP D N0 (qs hv1 y (.inr (8, [.ref ms, .ref mb, .ref (ra 28), .int gr, .int (nI 2), .int ca, .int (nI m0), .ref od, .ref pt, .int ct, .int fau, .ref fi, .ref re, .int cs, .ref rc, .ref rs, .ref so, .ref ot, .ref cn, .ref la, .int ce, .ref ro, .int rn]))) H := hP
                        obtain ⟨hv3, ehv3⟩ : ∃ z : qH, z = qs hv1 y (.inr (8, [.ref ms, .ref mb, .ref (ra 28), .int gr, .int (nI 2), .int ca, .int (nI m0), .ref od, .ref pt, .int ct, .int fau, .ref fi, .ref re, .int cs, .ref rc, .ref rs, .ref so, .ref ot, .ref cn, .ref la, .int ce, .ref ro, .int rn])) := ⟨_, rfl⟩
                        rw [← ehv3] at hP
                        have khv3 : ∀ b o, b ≠ y → hv1 b = some o → hv3 b = some o := by rw [ehv3]; exact fun b o nb hb => (qs_ne nb).trans hb
                        replace hms := khv3 _ _ (fun q => by subst q; have := hms.symm.trans hY; first | cases this | simp at this) hms
                        replace hmb := khv3 _ _ (fun q => by subst q; have := hmb.symm.trans hY; first | cases this | simp at this) hmb
                        replace faw := khv3 _ _ (fun q => by have z9 := faw; rw [q] at z9; have := z9.symm.trans hY; first | cases this | simp at this) faw
                        replace fkw := khv3 _ _ (fun q => by have z9 := fkw; rw [q] at z9; have := z9.symm.trans hY; first | cases this | simp at this) fkw
                        replace fvw := khv3 _ _ (fun q => by have z9 := fvw; rw [q] at z9; have := z9.symm.trans hY; first | cases this | simp at this) fvw
                        replace faj := khv3 _ _ (fun q => by have z9 := faj; rw [q] at z9; have := z9.symm.trans hY; first | cases this | simp at this) faj
                        replace fkj := khv3 _ _ (fun q => by have z9 := fkj; rw [q] at z9; have := z9.symm.trans hY; first | cases this | simp at this) fkj
                        replace fvj := khv3 _ _ (fun q => by have z9 := fvj; rw [q] at z9; have := z9.symm.trans hY; first | cases this | simp at this) fvj
                        replace fak := khv3 _ _ (fun q => by have z9 := fak; rw [q] at z9; have := z9.symm.trans hY; first | cases this | simp at this) fak
                        replace fkk := khv3 _ _ (fun q => by have z9 := fkk; rw [q] at z9; have := z9.symm.trans hY; first | cases this | simp at this) fkk
                        replace fvk := khv3 _ _ (fun q => by have z9 := fvk; rw [q] at z9; have := z9.symm.trans hY; first | cases this | simp at this) fvk
                        replace hY : hv3 y = some (.inr (8, [.ref ms, .ref mb, .ref (ra 28), .int gr, .int (nI 2), .int ca, .int (nI m0), .ref od, .ref pt, .int ct, .int fau, .ref fi, .ref re, .int cs, .ref rc, .ref rs, .ref so, .ref ot, .ref cn, .ref la, .int ce, .ref ro, .int rn])) := by rw [ehv3]; exact qs_self
                        clear ehv3
                        replace fr := fun b o hb n1 n2 => khv3 b o n1 (fr b o hb n1 n2)
                        refine lv_if_eq (tgt := 87) hx hb dX8_meet_62 (by decide) (fun c62 => ?_) (fun c62 => ?_)
                        · replace c62 : 0 = 0 := (nI_eq (a := 0) (b := 0) (by omega) (by omega)).mp c62
                          refine lv_iconst (v := nI 0) hx hb dX8_meet_87 (by decide) ?_
                          have ex : xs_meet S (nI i) (nI j) (nI k) p3 m0 = (2, S, 0, m0) := by (unfold xs_meet; rw [if_neg (by simp [ebi, ebj, ebk]), ecj, eck, if_pos (by simp [hoj, hok])])
                          obtain ⟨m9, f9⟩ := hM.fin0 hY0 (h' := hv3) ⟨hRw.1, hRw.2.1, hRw.2.2.1, faw, fkw, fvw⟩ fr
                          exact q_iret C hP hS ⟨by first | (rw [ex]; done) | (rw [ex]; rfl), by rw [ex]; exact hY, by first | exact m9 | (rw [ex]; exact m9), f9⟩ (by omega) dX8_meet_88
                        · replace c62 : ¬ 0 = 0 := fun zq => c62 ((nI_eq (a := 0) (b := 0) (by omega) (by omega)).mpr zq)
                          exfalso; omega
                      · replace c50 : ¬ 0 = 0 := fun zq => c50 ((nI_eq (a := 0) (b := 0) (by omega) (by omega)).mpr zq)
                        exfalso; omega
                    | true =>
                      refine lv_if_eq (tgt := 57) hx hb dX8_meet_50 (by decide) (fun c50 => ?_) (fun c50 => ?_)
                      · replace c50 : 1 = 0 := (nI_eq (a := 1) (b := 0) (by omega) (by omega)).mp c50
                        exfalso; omega
                      · replace c50 : ¬ 1 = 0 := fun zq => c50 ((nI_eq (a := 1) (b := 0) (by omega) (by omega)).mpr zq)
                        refine lv_iconst (v := nI 1) hx hb dX8_meet_53 (by decide) ?_
                        refine lv_goto (tgt := 58) hx hb dX8_meet_54 (by decide) ?_
                        refine lv_iconst (v := nI 2) hx hb dX8_meet_58 (by decide) ?_
                        refine q_callV (rest := []) C (c_X8_good1 l D cy N0 hv1 y ms mb (ra 28) od pt fi re rc rs so ot cn la ro gr 0 ca (nI m0) ct fau cs ce rn (nI 2) hY) kX8_good g1249 g1251 rfl gp41 g4 hP hS hY (by first | decide | omega) hl.1 rfl (by decide) (by first | decide | omega) dX8_meet_59 (fun q ce E h' H1 locs1 hE => hE.elim) (fun v hh9 H locs hq hP hS => ?_)
                        obtain ⟨rfl, rfl⟩ := hq
                        replace hP : qP D N0 (qs hv1 y (.inr (8, [.ref ms, .ref mb, .ref (ra 28), .int gr, .int 0, .int ca, .int (nI m0), .ref od, .ref pt, .int ct, .int fau, .ref fi, .ref re, .int cs, .ref rc, .ref rs, .ref so, .ref ot, .ref cn, .ref la, .int ce, .ref ro, .int rn]))) H := hP
                        obtain ⟨hv4, ehv4⟩ : ∃ z : qH, z = qs hv1 y (.inr (8, [.ref ms, .ref mb, .ref (ra 28), .int gr, .int 0, .int ca, .int (nI m0), .ref od, .ref pt, .int ct, .int fau, .ref fi, .ref re, .int cs, .ref rc, .ref rs, .ref so, .ref ot, .ref cn, .ref la, .int ce, .ref ro, .int rn])) := ⟨_, rfl⟩
                        rw [← ehv4] at hP
                        have khv4 : ∀ b o, b ≠ y → hv1 b = some o → hv4 b = some o := by rw [ehv4]; exact fun b o nb hb => (qs_ne nb).trans hb
                        replace hms := khv4 _ _ (fun q => by subst q; have := hms.symm.trans hY; first | cases this | simp at this) hms
                        replace hmb := khv4 _ _ (fun q => by subst q; have := hmb.symm.trans hY; first | cases this | simp at this) hmb
                        replace faw := khv4 _ _ (fun q => by have z9 := faw; rw [q] at z9; have := z9.symm.trans hY; first | cases this | simp at this) faw
                        replace fkw := khv4 _ _ (fun q => by have z9 := fkw; rw [q] at z9; have := z9.symm.trans hY; first | cases this | simp at this) fkw
                        replace fvw := khv4 _ _ (fun q => by have z9 := fvw; rw [q] at z9; have := z9.symm.trans hY; first | cases this | simp at this) fvw
                        replace faj := khv4 _ _ (fun q => by have z9 := faj; rw [q] at z9; have := z9.symm.trans hY; first | cases this | simp at this) faj
                        replace fkj := khv4 _ _ (fun q => by have z9 := fkj; rw [q] at z9; have := z9.symm.trans hY; first | cases this | simp at this) fkj
                        replace fvj := khv4 _ _ (fun q => by have z9 := fvj; rw [q] at z9; have := z9.symm.trans hY; first | cases this | simp at this) fvj
                        replace fak := khv4 _ _ (fun q => by have z9 := fak; rw [q] at z9; have := z9.symm.trans hY; first | cases this | simp at this) fak
                        replace fkk := khv4 _ _ (fun q => by have z9 := fkk; rw [q] at z9; have := z9.symm.trans hY; first | cases this | simp at this) fkk
                        replace fvk := khv4 _ _ (fun q => by have z9 := fvk; rw [q] at z9; have := z9.symm.trans hY; first | cases this | simp at this) fvk
                        replace hY : hv4 y = some (.inr (8, [.ref ms, .ref mb, .ref (ra 28), .int gr, .int 0, .int ca, .int (nI m0), .ref od, .ref pt, .int ct, .int fau, .ref fi, .ref re, .int cs, .ref rc, .ref rs, .ref so, .ref ot, .ref cn, .ref la, .int ce, .ref ro, .int rn])) := by rw [ehv4]; exact qs_self
                        clear ehv4
                        replace fr := fun b o hb n1 n2 => khv4 b o n1 (fr b o hb n1 n2)
                        refine lv_if_eq (tgt := 87) hx hb dX8_meet_62 (by decide) (fun c62 => ?_) (fun c62 => ?_)
                        · replace c62 : 1 = 0 := (nI_eq (a := 1) (b := 0) (by omega) (by omega)).mp c62
                          exfalso; omega
                        · replace c62 : ¬ 1 = 0 := fun zq => c62 ((nI_eq (a := 1) (b := 0) (by omega) (by omega)).mpr zq)
                          refine lv_aload_n hx hb dX8_meet_65 rfl (lv_at hl 0 rfl) ?_
                          refine lv_aload_n hx hb dX8_meet_66 rfl (lv_at hl 0 rfl) ?_
                          refine lv_iconst (v := nI 0) hx hb dX8_meet_67 (by decide) ?_
                          refine lv_aload_n hx hb dX8_meet_68 rfl (lv_at hl 0 rfl) ?_
                          refine q_get C hP hY rfl inX8 0 (by decide) g1167 rfl dX8_meet_69 ?_
                          refine lv_iload_n hx hb dX8_meet_72 rfl (lv_at hl 2 rfl) ?_
                          refine q_aaldR C hP hms rfl (by omega) (by omega) rfl dX8_meet_73 ?_
                          refine q_get C hP faj rfl inX7 3 (by decide) g1143 rfl dX8_meet_74 ?_
                          refine q_callV (rest := [.ref y]) C (c_X8_fits l D cy N0 hv4 y m0 0 nj _ hY rfl (by omega) (by omega)) kX8_fits g1413 g1415 rfl gp61 g4 hP hS hY (by first | decide | omega) hl.1 rfl (by simp [q_catrf, q_cati, q_catl, q_cata, q_catn]) (by first | decide | omega) dX8_meet_77 (fun q ce E h' H1 locs1 hE => hE.elim) (fun v hh10 H locs hq hP hS => ?_)
                          obtain ⟨rfl, rfl⟩ := hq
                          by_cases cf : 0 ≤ 1000 ∧ m0 + nj ≤ 20000
                          · rw [if_pos cf]
                            refine lv_iconst (v := nI 3) hx hb dX8_meet_80 (by decide) ?_
                            refine q_callV (rest := []) C (c_X8_good1 l D cy N0 hv4 y ms mb (ra 28) od pt fi re rc rs so ot cn la ro gr 0 ca (nI m0) ct fau cs ce rn (nI 3) hY) kX8_good g1249 g1251 rfl gp41 g4 hP hS hY (by first | decide | omega) hl.1 rfl (by decide) (by first | decide | omega) dX8_meet_81 (fun q ce E h' H1 locs1 hE => hE.elim) (fun v hh11 H locs hq hP hS => ?_)
                            obtain ⟨rfl, rfl⟩ := hq
                            replace hP : qP D N0 (qs hv4 y (.inr (8, [.ref ms, .ref mb, .ref (ra 28), .int gr, .int 0, .int ca, .int (nI m0), .ref od, .ref pt, .int ct, .int fau, .ref fi, .ref re, .int cs, .ref rc, .ref rs, .ref so, .ref ot, .ref cn, .ref la, .int ce, .ref ro, .int rn]))) H := hP
                            obtain ⟨hv5, ehv5⟩ : ∃ z : qH, z = qs hv4 y (.inr (8, [.ref ms, .ref mb, .ref (ra 28), .int gr, .int 0, .int ca, .int (nI m0), .ref od, .ref pt, .int ct, .int fau, .ref fi, .ref re, .int cs, .ref rc, .ref rs, .ref so, .ref ot, .ref cn, .ref la, .int ce, .ref ro, .int rn])) := ⟨_, rfl⟩
                            rw [← ehv5] at hP
                            have khv5 : ∀ b o, b ≠ y → hv4 b = some o → hv5 b = some o := by rw [ehv5]; exact fun b o nb hb => (qs_ne nb).trans hb
                            replace hms := khv5 _ _ (fun q => by subst q; have := hms.symm.trans hY; first | cases this | simp at this) hms
                            replace hmb := khv5 _ _ (fun q => by subst q; have := hmb.symm.trans hY; first | cases this | simp at this) hmb
                            replace faw := khv5 _ _ (fun q => by have z9 := faw; rw [q] at z9; have := z9.symm.trans hY; first | cases this | simp at this) faw
                            replace fkw := khv5 _ _ (fun q => by have z9 := fkw; rw [q] at z9; have := z9.symm.trans hY; first | cases this | simp at this) fkw
                            replace fvw := khv5 _ _ (fun q => by have z9 := fvw; rw [q] at z9; have := z9.symm.trans hY; first | cases this | simp at this) fvw
                            replace faj := khv5 _ _ (fun q => by have z9 := faj; rw [q] at z9; have := z9.symm.trans hY; first | cases this | simp at this) faj
                            replace fkj := khv5 _ _ (fun q => by have z9 := fkj; rw [q] at z9; have := z9.symm.trans hY; first | cases this | simp at this) fkj
                            replace fvj := khv5 _ _ (fun q => by have z9 := fvj; rw [q] at z9; have := z9.symm.trans hY; first | cases this | simp at this) fvj
                            replace fak := khv5 _ _ (fun q => by have z9 := fak; rw [q] at z9; have := z9.symm.trans hY; first | cases this | simp at this) fak
                            replace fkk := khv5 _ _ (fun q => by have z9 := fkk; rw [q] at z9; have := z9.symm.trans hY; first | cases this | simp at this) fkk
                            replace fvk := khv5 _ _ (fun q => by have z9 := fvk; rw [q] at z9; have := z9.symm.trans hY; first | cases this | simp at this) fvk
                            replace hY : hv5 y = some (.inr (8, [.ref ms, .ref mb, .ref (ra 28), .int gr, .int 0, .int ca, .int (nI m0), .ref od, .ref pt, .int ct, .int fau, .ref fi, .ref re, .int cs, .ref rc, .ref rs, .ref so, .ref ot, .ref cn, .ref la, .int ce, .ref ro, .int rn])) := by rw [ehv5]; exact qs_self
                            clear ehv5
                            replace fr := fun b o hb n1 n2 => khv5 b o n1 (fr b o hb n1 n2)
                            refine lv_if_ne (tgt := 89) hx hb dX8_meet_84 (by decide) (fun c84 => ?_) (fun c84 => ?_)
                            · replace c84 : ¬ 1 = 0 := fun zq => c84 ((nI_eq (a := 1) (b := 0) (by omega) (by omega)).mpr zq)
                              refine lv_aload_n hx hb dX8_meet_89 rfl (lv_at hl 0 rfl) ?_
                              refine q_get C hP hY rfl inX8 0 (by decide) g1167 rfl dX8_meet_90 ?_
                              refine lv_iload_n hx hb dX8_meet_93 rfl (lv_at hl 2 rfl) ?_
                              refine q_aaldR C hP hms rfl (by omega) (by omega) rfl dX8_meet_94 ?_
                              refine q_get C hP faj rfl inX7 3 (by decide) g1143 rfl dX8_meet_95 ?_
                              refine lv_istore (lv' := [(5, .int (nI nj)), (0, .ref y), (1, .int (nI i)), (2, .int (nI j)), (3, .int (nI k)), (4, .int p3)]) hx hb dX8_meet_98 hl (by decide) rfl (fun ls hl => ?_)
                              refine lv_aload_n hx hb dX8_meet_100 rfl (lv_at hl 1 rfl) ?_
                              refine q_get C hP hY rfl inX8 0 (by decide) g1167 rfl dX8_meet_101 ?_
                              refine lv_iload_n hx hb dX8_meet_104 rfl (lv_at hl 3 rfl) ?_
                              refine q_aaldR C hP hms rfl (by omega) (by omega) rfl dX8_meet_105 ?_
                              refine lv_aload_n hx hb dX8_meet_106 rfl (lv_at hl 1 rfl) ?_
                              refine q_get C hP hY rfl inX8 2 (by decide) g1169 rfl dX8_meet_107 ?_
                              refine q_callS (rest := []) C (c_X8_copy l D cy N0 hv5 (ra j) (rk j) (rv j) (S j).1 (nI (S j).2.2.1) (nI (S j).2.2.2) rwj nj Fj Gj (ra 28) (rk 28) (rv 28) kdw smw dpw rww nw fw gw ⟨hRj.1, hRj.2.1, hRj.2.2.1, faj, fkj, fvj⟩ ⟨hRw.1, hRw.2.1, hRw.2.2.1, faw, fkw, fvw⟩ apj (by omega)) kX8_copy g1257 g1258 hP hS (by first | decide | omega) hl.1 rfl (by decide) (by first | decide | omega) dX8_meet_110 (fun q ce E h' H1 locs1 hE => hE.elim) (fun v hh12 H locs hq hP hS => ?_)
                              obtain ⟨rfl, rfl⟩ := hq
                              obtain ⟨hv6, ehv6⟩ : ∃ z : qH, z = qRh cy hv5 (ra 28) (rk 28) (rv 28) ((S j).1) (nI nj) (nI (S j).2.2.1) (nI (S j).2.2.2) rwj (qCp Fj fw nj) (qCp Gj gw nj) := ⟨_, rfl⟩
                              rw [← ehv6] at hP
                              have r9 : qRw cy hv6 (ra 28) (rk 28) (rv 28) ((S j).1) (nI nj) (nI (S j).2.2.1) (nI (S j).2.2.2) rwj (qCp Fj fw nj) (qCp Gj gw nj) := by rw [ehv6]; exact qRw.new (cy := cy) (h := hv5) (kd := kdw) (n := (nI nw)) (sm := smw) (dp := dpw) (rw := rww) (f := fw) (g := gw) ⟨hRw.1, hRw.2.1, hRw.2.2.1, faw, fkw, fvw⟩
                              have khv6 : ∀ b o, qOf (ra 28) (rk 28) (rv 28) b → hv5 b = some o → hv6 b = some o := by rw [ehv6]; exact fun b o q hb => (qRh_o q.1 q.2.1 q.2.2).trans hb
                              replace hY := khv6 _ _ ⟨fun q => by rw [q] at hY; have := faw.symm.trans hY; first | cases this | simp at this, fun q => by rw [q] at hY; have := fkw.symm.trans hY; first | cases this | simp at this, fun q => by rw [q] at hY; have := fvw.symm.trans hY; first | cases this | simp at this⟩ hY
                              replace hms := khv6 _ _ ⟨fun q => by rw [q] at hms; have := faw.symm.trans hms; first | cases this | simp at this, fun q => by rw [q] at hms; have := fkw.symm.trans hms; first | cases this | simp at this, fun q => by rw [q] at hms; have := fvw.symm.trans hms; first | cases this | simp at this⟩ hms
                              replace hmb := khv6 _ _ ⟨fun q => by rw [q] at hmb; have := faw.symm.trans hmb; first | cases this | simp at this, fun q => by rw [q] at hmb; have := fkw.symm.trans hmb; first | cases this | simp at this, fun q => by rw [q] at hmb; have := fvw.symm.trans hmb; first | cases this | simp at this⟩ hmb
                              replace faj := khv6 _ _ apj.1 faj
                              replace fkj := khv6 _ _ apj.2.1 fkj
                              replace fvj := khv6 _ _ apj.2.2 fvj
                              replace fak := khv6 _ _ apk.1 fak
                              replace fkk := khv6 _ _ apk.2.1 fkk
                              replace fvk := khv6 _ _ apk.2.2 fvk
                              replace fr := fun b o hb n1 n2 => khv6 b o n2 (fr b o hb n1 n2)
                              clear faw fkw fvw
                              have faw := r9.2.2.2.1
                              have fkw := r9.2.2.2.2.1
                              have fvw := r9.2.2.2.2.2
                              unfold qRb at faw
                              unfold qJr at fkw fvw
                              clear r9 ehv6
                              have lw : qLs ((S j).1) (qCp Fj fw nj) (qCp Gj gw nj) nj = (S j).2.1 := by rw [qLs_cp]; exact hLj.symm
                              refine lv_aload_n hx hb dX8_meet_113 rfl (lv_at hl 1 rfl) ?_
                              refine q_get C hP hY rfl inX8 2 (by decide) g1169 rfl dX8_meet_114 ?_
                              refine q_get C hP faw rfl inX7 3 (by decide) g1143 rfl dX8_meet_117 ?_
                              refine lv_iconst (v := nI 1) hx hb dX8_meet_120 (by decide) ?_
                              refine lv_isub hx hb dX8_meet_121 ?_
                              refine lv_istore (lv' := [(6, .int (nI nj - nI 1)), (5, .int (nI nj)), (0, .ref y), (1, .int (nI i)), (2, .int (nI j)), (3, .int (nI k)), (4, .int p3)]) hx hb dX8_meet_122 hl (by decide) rfl (fun ls hl => ?_)
                              have ek2 : (S j).1 = 2 := bHo_4 (hI j (by omega)).2.2 hoj
                              have lw1 : qLs (S j).1 (qCp Fj fw nj) (qCp Gj gw nj) nj = qLs (S j).1 Fj Gj nj := qLs_cp
                              clear lw
                              refine (?_ : ∀ (t : Nat) (H : Heap) (locs : List Loc) (ls : Array Slot) (hv0 : qH) (fW gW : Nat → Int64) (nW tt : Nat), tt < t → hv0 y = some (.inr (8, [.ref ms, .ref mb, .ref (ra 28), .int gr, .int 0, .int ca, .int (nI m0), .ref od, .ref pt, .int ct, .int fau, .ref fi, .ref re, .int cs, .ref rc, .ref rs, .ref so, .ref ot, .ref cn, .ref la, .int ce, .ref ro, .int rn])) → hv0 ms = some (.inl (cy 5, 24, .inr (.inr (.inr (.inr (fun i => some (ra i))))))) → hv0 mb = some (.inl (cy 5, 4, .inr (.inr (.inr (.inr (fun i => some (ra (24 + i)))))))) → hv0 (ra 28) = some (.inr (7, [.ref (rk 28), .ref (rv 28), .int (S j).1, .int (nI nW), .int (nI (S j).2.2.1), .int (nI (S j).2.2.2), .int rwj])) → hv0 (rk 28) = some (.inl (cy 1, 1001, .inr (.inl fW))) → hv0 (rv 28) = some (.inl (cy 1, 1001, .inr (.inl gW))) → hv0 (ra j) = some (.inr (7, [.ref (rk j), .ref (rv j), .int (S j).1, .int (nI nj), .int (nI (S j).2.2.1), .int (nI (S j).2.2.2), .int rwj])) → hv0 (rk j) = some (.inl (cy 1, 1001, .inr (.inl Fj))) → hv0 (rv j) = some (.inl (cy 1, 1001, .inr (.inl Gj))) → hv0 (ra k) = some (.inr (7, [.ref (rk k), .ref (rv k), .int (S k).1, .int (nI nk), .int (nI (S k).2.2.1), .int (nI (S k).2.2.2), .int rwk])) → hv0 (rk k) = some (.inl (cy 1, 1001, .inr (.inl Fk))) → hv0 (rv k) = some (.inl (cy 1, 1001, .inr (.inl Gk))) → (∀ b o, h b = some o → b ≠ y → qOf (ra 28) (rk 28) (rv 28) b → hv0 b = some o) → qLs (S j).1 fW gW nW = qLs (S j).1 Fj Gj tt ++ xMt (S k).2.1 p3 ((qLs (S j).1 Fj Gj nj).drop tt) → tt ≤ nW ∧ nW ≤ nj ∧ tt ≤ nj → lv_has ls 7 [(6, .int (nI tt - nI 1)), (5, .int (nI nj)), (0, .ref y), (1, .int (nI i)), (2, .int (nI j)), (3, .int (nI k)), (4, .int p3)] → qP D N0 hv0 H → va_S (qA N0) s.heap H locs → W p l e _ s m _ below meth c H locs 0 0 _ (F0 m 124 ls [])) _ H locs ls hv6 (qCp Fj fw nj) (qCp Gj gw nj) nj nj (Nat.lt_succ_self _) hY hms hmb faw fkw fvw faj fkj fvj fak fkk fvk fr (by rw [List.drop_of_length_le (by rw [qLs_len]; omega), lw1]; show _ = _ ++ []; rw [List.append_nil]) ⟨Nat.le_refl _, Nat.le_refl _, Nat.le_refl _⟩ (lv_sub hl [0, 1, 2, 3, 4, 5, 6] rfl) hP hS
                              clear hl hP hS
                              intro t
                              induction t with
                              | zero => intro H locs ls hv0 fW gW nW tt ht; exact absurd ht (Nat.not_lt_zero _)
                              | succ t ihl =>
                                intro H locs ls hv0 fW gW nW tt ht hY hms hmb faw fkw fvw faj fkj fvj fak fkk fvk fr lw hnW hl hP hS
                                rcases tt with _ | tt
                                · replace hl : lv_has ls 7 [(6, .int (-1)), (5, .int (nI nj)), (0, .ref y), (1, .int (nI i)), (2, .int (nI j)), (3, .int (nI k)), (4, .int p3)] := hl
                                  refine lv_iload hx hb dX8_meet_124 (lv_at hl 0 rfl) ?_
                                  refine lv_if_lt (tgt := 176) hx hb dX8_meet_126 (by decide) (fun _ => ?_) (fun c => absurd (by decide) c)
                                  rw [List.drop_zero, ← hLj] at lw
                                  replace lw : qLs (S j).1 fW gW nW = xMt (S k).2.1 p3 (S j).2.1 := lw
                                  refine lv_aload_n hx hb dX8_meet_176 rfl (lv_at hl 2 rfl) ?_
                                  refine lv_iload_n hx hb dX8_meet_177 rfl (lv_at hl 3 rfl) ?_
                                  refine lv_iload hx hb dX8_meet_178 (lv_at hl 1 rfl) ?_
                                  obtain ⟨ni, rwi, Fi, Gi, hRi, hni, hLi, hKi⟩ := hrs i (by omega)
                                  have api := hRi.apart hRw (hmd.two (i := i) (j := 28) (by omega) (by omega) (by omega))
                                  replace hRi := hRi.keep2 (fun b o hb ho => fr b o ho (hRi.ney hY0 hb) (hb.elim (fun q => q ▸ api.1) (fun hb => hb.elim (fun q => q ▸ api.2.1) (fun q => q ▸ api.2.2))))
                                  have fai := hRi.2.2.2.1
                                  have fki := hRi.2.2.2.2.1
                                  have fvi := hRi.2.2.2.2.2
                                  unfold qRb at fai
                                  unfold qJr at fki fvi
                                  refine q_callV (rest := []) C (c_X8_done l D cy N0 hv0 y ms mb od pt fi re rc rs so ot cn la ro gr 0 ca (nI m0) ct fau cs ce rn ra rk rv i (nI nj) (S j).1 (nI (S j).2.2.1) (nI (S j).2.2.2) rwj nW fW gW (S i).1 (nI (S i).2.2.1) (nI (S i).2.2.2) rwi ni Fi Gi hY hms hmd ⟨hRw.1, hRw.2.1, hRw.2.2.1, faw, fkw, fvw⟩ ⟨hRi.1, hRi.2.1, hRi.2.2.1, fai, fki, fvi⟩ (by omega) (by omega)) kX8_done g1293 g1295 rfl gp45 g4 hP hS hY (by first | decide | omega) hl.1 rfl (by decide) (by first | decide | omega) dX8_meet_180 (fun q ce E h' H1 locs1 hE => hE.elim) (fun v hh13 H locs hq hP hS => ?_)
                                  obtain ⟨rfl, hY9, hw9, hi9, fr9⟩ := hq
                                  replace fr := fun b o hb n1 n2 n3 => fr9 b o (fr b o hb n1 n2) n1 n2 n3
                                  rw [nI_add] at hY9
                                  have el : (xMt (S k).2.1 p3 (S j).2.1).length = nW := by rw [← lw, qLs_len]
                                  have ex : xs_meet S (nI i) (nI j) (nI k) p3 m0 = (0, qU S i ((S j).1, (xMt (S k).2.1 p3 (S j).2.1), (S j).2.2), nI nW, m0 + nj) := by (unfold xs_meet; rw [if_neg (by simp [ebi, ebj, ebk]), ecj, eck, if_neg (by simp [hoj, hok]), eci]; unfold xr_meet; rw [show (S j).2.1.length = nj from (by rw [hLj, qLs_len]), if_neg (by omega), el])
                                  obtain ⟨m9, f9⟩ := hM.fin hY0 (i := i) (by omega) (s := ((S j).1, (xMt (S k).2.1 p3 (S j).2.1), (S j).2.2.1, (S j).2.2.2)) ⟨nW, _, _, _, hi9, by omega, by rw [qLs_cp]; exact lw.symm, Or.inl rfl⟩ hw9 fr
                                  exact q_iret C hP hS ⟨by first | (rw [ex]; done) | (rw [ex]; rfl), by rw [ex]; exact hY9, by first | exact m9 | (rw [ex]; exact m9), f9⟩ (by omega) dX8_meet_183
                                · replace hl : lv_has ls 7 [(6, .int (nI tt)), (5, .int (nI nj)), (0, .ref y), (1, .int (nI i)), (2, .int (nI j)), (3, .int (nI k)), (4, .int p3)] := by rw [← show nI (tt + 1) - nI 1 = nI tt from nI_pred tt]; exact hl
                                  have eT : fW tt = Fj tt := by
                                    have z := congrArg (fun L : qKV => L[tt]?) lw
                                    try simp only [] at z
                                    rw [qLs_get2 (by omega), List.getElem?_append_left (by rw [qLs_len]; omega), qLs_get2 (by omega)] at z
                                    exact congrArg Prod.fst (Option.some.inj z)
                                  have eD : (qLs (S j).1 Fj Gj nj).drop tt = (Fj tt, xV (S j).1 (Gj tt)) :: (qLs (S j).1 Fj Gj nj).drop (tt + 1) := by
                                    rw [List.drop_eq_getElem_cons (by rw [qLs_len]; omega)]
                                    congr 1
                                    exact (List.getElem?_eq_some_iff.mp (qLs_get2 (by omega))).2
                                  refine lv_iload hx hb dX8_meet_124 (lv_at hl 0 rfl) ?_
                                  refine lv_if_lt (tgt := 176) hx hb dX8_meet_126 (by decide) (fun c126 => ?_) (fun c126 => ?_)
                                  · replace c126 : tt < 0 := (nI_ltI (a := tt) (b := 0) (by omega) (by omega)).mp c126
                                    exfalso; omega
                                  · replace c126 : ¬ tt < 0 := fun zq => c126 ((nI_ltI (a := tt) (b := 0) (by omega) (by omega)).mpr zq)
                                    refine lv_aload_n hx hb dX8_meet_129 rfl (lv_at hl 2 rfl) ?_
                                    refine q_get C hP hY rfl inX8 0 (by decide) g1167 rfl dX8_meet_130 ?_
                                    refine lv_iload_n hx hb dX8_meet_133 rfl (lv_at hl 5 rfl) ?_
                                    refine q_aaldR C hP hms rfl (by omega) (by omega) rfl dX8_meet_134 ?_
                                    refine lv_aload_n hx hb dX8_meet_135 rfl (lv_at hl 2 rfl) ?_
                                    refine q_get C hP hY rfl inX8 2 (by decide) g1169 rfl dX8_meet_136 ?_
                                    refine q_get C hP faw rfl inX7 0 (by decide) g1138 rfl dX8_meet_139 ?_
                                    refine lv_iload hx hb dX8_meet_142 (lv_at hl 0 rfl) ?_
                                    refine q_laldN C hP fkw (by omega) (by omega) dX8_meet_144 ?_
                                    refine q_callS (rest := []) C (c_X8_find l D cy N0 hv0 (ra k) (rk k) (rv k) ((S k).1) (nI (S k).2.2.1) (nI (S k).2.2.2) rwk nk Fk Gk (fW tt) ⟨hRk.1, hRk.2.1, hRk.2.2.1, fak, fkk, fvk⟩ (by omega)) kX8_find g1279 g1280 hP hS (by first | decide | omega) hl.1 rfl (by decide) (by first | decide | omega) dX8_meet_145 (fun q ce E h' H1 locs1 hE => hE.elim) (fun v hh14 H locs hq hP hS => ?_)
                                    obtain ⟨rfl, hq⟩ := hq
                                    rcases hq with ⟨j8, rfl, hj8, e8, m8⟩ | ⟨rfl, m8⟩
                                    · have hx8 := xHas_t (kd := (S k).1) (g := Gk) hj8 e8
                                      rw [← hLk] at hx8
                                      refine lv_if_lt (tgt := 155) hx hb dX8_meet_148 (by decide) (fun c148 => ?_) (fun c148 => ?_)
                                      · replace c148 : j8 < 0 := (nI_ltI (a := j8) (b := 0) (by omega) (by omega)).mp c148
                                        exfalso; omega
                                      · replace c148 : ¬ j8 < 0 := fun zq => c148 ((nI_ltI (a := j8) (b := 0) (by omega) (by omega)).mpr zq)
                                        refine lv_iconst (v := nI 1) hx hb dX8_meet_151 (by decide) ?_
                                        refine lv_goto (tgt := 156) hx hb dX8_meet_152 (by decide) ?_
                                        refine lv_iload hx hb dX8_meet_156 (lv_at hl 6 rfl) ?_
                                        refine lv_icmp_ne (tgt := 170) hx hb dX8_meet_158 (by decide) (fun c158 => ?_) (fun c158 => ?_)
                                        · refine lv_iinc (v := nI tt - nI 1) (lv' := [(6, .int (nI tt - nI 1)), (5, .int (nI nj)), (0, .ref y), (1, .int (nI i)), (2, .int (nI j)), (3, .int (nI k)), (4, .int p3)]) hx hb dX8_meet_170 hl (k := 0) rfl (q_dec1 tt) (by decide) rfl (fun ls hl => ?_)
                                          refine lv_goto (tgt := 124) hx hb dX8_meet_173 (by decide) ?_
                                          have lw2 : qLs (S j).1 fW gW nW = qLs (S j).1 Fj Gj tt ++ xMt (S k).2.1 p3 ((qLs (S j).1 Fj Gj nj).drop tt) := by
                                            rw [lw, qLs_succ, List.append_assoc, eD]
                                            unfold xMt
                                            rw [List.filter_cons (xs := (qLs (S j).1 Fj Gj nj).drop (tt + 1)), if_pos (by simp only [decide_eq_true_eq]; rw [eT] at hx8; rw [hx8]; first | exact c158 | (simpa using c158))]
                                            rfl
                                          exact ihl H locs ls hv0 _ _ nW tt (by omega) hY hms hmb faw fkw fvw faj fkj fvj fak fkk fvk fr lw2 ⟨by omega, by omega, by omega⟩ (lv_sub hl [0, 1, 2, 3, 4, 5, 6] rfl) hP hS
                                        · refine lv_aload_n hx hb dX8_meet_161 rfl (lv_at hl 2 rfl) ?_
                                          refine q_get C hP hY rfl inX8 2 (by decide) g1169 rfl dX8_meet_162 ?_
                                          refine lv_iload hx hb dX8_meet_165 (lv_at hl 0 rfl) ?_
                                          refine q_callS (rest := []) C (c_X8_remove l D cy N0 hv0 (ra 28) (rk 28) (rv 28) ((S j).1) (nI (S j).2.2.1) (nI (S j).2.2.2) rwj nW fW gW tt ⟨hRw.1, hRw.2.1, hRw.2.2.1, faw, fkw, fvw⟩ (by omega) (by omega)) kX8_remove g1386 g1387 hP hS (by first | decide | omega) hl.1 rfl (by decide) (by first | decide | omega) dX8_meet_167 (fun q ce E h' H1 locs1 hE => hE.elim) (fun v hh15 H locs hq hP hS => ?_)
                                          obtain ⟨rfl, rfl⟩ := hq
                                          obtain ⟨hv7, ehv7⟩ : ∃ z : qH, z = qRh cy hv0 (ra 28) (rk 28) (rv 28) ((S j).1) (nI (nW - 1)) (nI (S j).2.2.1) (nI (S j).2.2.2) rwj (qSd fW tt (nW - 1)) (qSd gW tt (nW - 1)) := ⟨_, rfl⟩
                                          rw [← ehv7] at hP
                                          have r9 : qRw cy hv7 (ra 28) (rk 28) (rv 28) ((S j).1) (nI (nW - 1)) (nI (S j).2.2.1) (nI (S j).2.2.2) rwj (qSd fW tt (nW - 1)) (qSd gW tt (nW - 1)) := by rw [ehv7]; exact qRw.new (cy := cy) (h := hv0) (kd := (S j).1) (n := (nI nW)) (sm := (nI (S j).2.2.1)) (dp := (nI (S j).2.2.2)) (rw := rwj) (f := fW) (g := gW) ⟨hRw.1, hRw.2.1, hRw.2.2.1, faw, fkw, fvw⟩
                                          have khv7 : ∀ b o, qOf (ra 28) (rk 28) (rv 28) b → hv0 b = some o → hv7 b = some o := by rw [ehv7]; exact fun b o q hb => (qRh_o q.1 q.2.1 q.2.2).trans hb
                                          replace hY := khv7 _ _ ⟨fun q => by rw [q] at hY; have := faw.symm.trans hY; first | cases this | simp at this, fun q => by rw [q] at hY; have := fkw.symm.trans hY; first | cases this | simp at this, fun q => by rw [q] at hY; have := fvw.symm.trans hY; first | cases this | simp at this⟩ hY
                                          replace hms := khv7 _ _ ⟨fun q => by rw [q] at hms; have := faw.symm.trans hms; first | cases this | simp at this, fun q => by rw [q] at hms; have := fkw.symm.trans hms; first | cases this | simp at this, fun q => by rw [q] at hms; have := fvw.symm.trans hms; first | cases this | simp at this⟩ hms
                                          replace hmb := khv7 _ _ ⟨fun q => by rw [q] at hmb; have := faw.symm.trans hmb; first | cases this | simp at this, fun q => by rw [q] at hmb; have := fkw.symm.trans hmb; first | cases this | simp at this, fun q => by rw [q] at hmb; have := fvw.symm.trans hmb; first | cases this | simp at this⟩ hmb
                                          replace faj := khv7 _ _ apj.1 faj
                                          replace fkj := khv7 _ _ apj.2.1 fkj
                                          replace fvj := khv7 _ _ apj.2.2 fvj
                                          replace fak := khv7 _ _ apk.1 fak
                                          replace fkk := khv7 _ _ apk.2.1 fkk
                                          replace fvk := khv7 _ _ apk.2.2 fvk
                                          replace fr := fun b o hb n1 n2 => khv7 b o n2 (fr b o hb n1 n2)
                                          clear faw fkw fvw
                                          have faw := r9.2.2.2.1
                                          have fkw := r9.2.2.2.2.1
                                          have fvw := r9.2.2.2.2.2
                                          unfold qRb at faw
                                          unfold qJr at fkw fvw
                                          clear r9 ehv7
                                          replace lw : qLs ((S j).1) (qSd fW tt (nW - 1)) (qSd gW tt (nW - 1)) (nW - 1) = (qLs (S j).1 Fj Gj (tt + 1) ++ xMt (S k).2.1 p3 ((qLs (S j).1 Fj Gj nj).drop (tt + 1))).eraseIdx tt := by rw [qLs_rem (by omega), lw]
                                          refine lv_iinc (v := nI tt - nI 1) (lv' := [(6, .int (nI tt - nI 1)), (5, .int (nI nj)), (0, .ref y), (1, .int (nI i)), (2, .int (nI j)), (3, .int (nI k)), (4, .int p3)]) hx hb dX8_meet_170 hl (k := 0) rfl (q_dec1 tt) (by decide) rfl (fun ls hl => ?_)
                                          refine lv_goto (tgt := 124) hx hb dX8_meet_173 (by decide) ?_
                                          have lw2 : qLs (S j).1 (qSd fW tt (nW - 1)) (qSd gW tt (nW - 1)) (nW - 1) = qLs (S j).1 Fj Gj tt ++ xMt (S k).2.1 p3 ((qLs (S j).1 Fj Gj nj).drop tt) := by
                                            rw [lw, qLs_succ, List.append_assoc, List.eraseIdx_append_of_length_le (by rw [qLs_len]; omega), qLs_len, Nat.sub_self, eD]
                                            unfold xMt
                                            rw [List.filter_cons, if_neg (by simp only [decide_eq_true_eq, Classical.not_not]; rw [eT] at hx8; rw [hx8]; first | exact c158 | (simpa using c158))]
                                            rfl
                                          exact ihl H locs ls hv7 _ _ (nW - 1) tt (by omega) hY hms hmb faw fkw fvw faj fkj fvj fak fkk fvk fr lw2 ⟨by omega, by omega, by omega⟩ (lv_sub hl [0, 1, 2, 3, 4, 5, 6] rfl) hP hS
                                    · have hx8 := xHas_f (kd := (S k).1) (g := Gk) m8
                                      rw [← hLk] at hx8
                                      refine lv_if_lt (tgt := 155) hx hb dX8_meet_148 (by decide) (fun _ => ?_) (fun c => absurd (by decide) c)
                                      refine lv_iconst (v := nI 0) hx hb dX8_meet_155 (by decide) ?_
                                      refine lv_iload hx hb dX8_meet_156 (lv_at hl 6 rfl) ?_
                                      refine lv_icmp_ne (tgt := 170) hx hb dX8_meet_158 (by decide) (fun c158 => ?_) (fun c158 => ?_)
                                      · refine lv_iinc (v := nI tt - nI 1) (lv' := [(6, .int (nI tt - nI 1)), (5, .int (nI nj)), (0, .ref y), (1, .int (nI i)), (2, .int (nI j)), (3, .int (nI k)), (4, .int p3)]) hx hb dX8_meet_170 hl (k := 0) rfl (q_dec1 tt) (by decide) rfl (fun ls hl => ?_)
                                        refine lv_goto (tgt := 124) hx hb dX8_meet_173 (by decide) ?_
                                        have lw2 : qLs (S j).1 fW gW nW = qLs (S j).1 Fj Gj tt ++ xMt (S k).2.1 p3 ((qLs (S j).1 Fj Gj nj).drop tt) := by
                                          rw [lw, qLs_succ, List.append_assoc, eD]
                                          unfold xMt
                                          rw [List.filter_cons (xs := (qLs (S j).1 Fj Gj nj).drop (tt + 1)), if_pos (by simp only [decide_eq_true_eq]; rw [eT] at hx8; rw [hx8]; first | exact c158 | (simpa using c158))]
                                          rfl
                                        exact ihl H locs ls hv0 _ _ nW tt (by omega) hY hms hmb faw fkw fvw faj fkj fvj fak fkk fvk fr lw2 ⟨by omega, by omega, by omega⟩ (lv_sub hl [0, 1, 2, 3, 4, 5, 6] rfl) hP hS
                                      · refine lv_aload_n hx hb dX8_meet_161 rfl (lv_at hl 2 rfl) ?_
                                        refine q_get C hP hY rfl inX8 2 (by decide) g1169 rfl dX8_meet_162 ?_
                                        refine lv_iload hx hb dX8_meet_165 (lv_at hl 0 rfl) ?_
                                        refine q_callS (rest := []) C (c_X8_remove l D cy N0 hv0 (ra 28) (rk 28) (rv 28) ((S j).1) (nI (S j).2.2.1) (nI (S j).2.2.2) rwj nW fW gW tt ⟨hRw.1, hRw.2.1, hRw.2.2.1, faw, fkw, fvw⟩ (by omega) (by omega)) kX8_remove g1386 g1387 hP hS (by first | decide | omega) hl.1 rfl (by decide) (by first | decide | omega) dX8_meet_167 (fun q ce E h' H1 locs1 hE => hE.elim) (fun v hh16 H locs hq hP hS => ?_)
                                        obtain ⟨rfl, rfl⟩ := hq
                                        obtain ⟨hv8, ehv8⟩ : ∃ z : qH, z = qRh cy hv0 (ra 28) (rk 28) (rv 28) ((S j).1) (nI (nW - 1)) (nI (S j).2.2.1) (nI (S j).2.2.2) rwj (qSd fW tt (nW - 1)) (qSd gW tt (nW - 1)) := ⟨_, rfl⟩
                                        rw [← ehv8] at hP
                                        have r9 : qRw cy hv8 (ra 28) (rk 28) (rv 28) ((S j).1) (nI (nW - 1)) (nI (S j).2.2.1) (nI (S j).2.2.2) rwj (qSd fW tt (nW - 1)) (qSd gW tt (nW - 1)) := by rw [ehv8]; exact qRw.new (cy := cy) (h := hv0) (kd := (S j).1) (n := (nI nW)) (sm := (nI (S j).2.2.1)) (dp := (nI (S j).2.2.2)) (rw := rwj) (f := fW) (g := gW) ⟨hRw.1, hRw.2.1, hRw.2.2.1, faw, fkw, fvw⟩
                                        have khv8 : ∀ b o, qOf (ra 28) (rk 28) (rv 28) b → hv0 b = some o → hv8 b = some o := by rw [ehv8]; exact fun b o q hb => (qRh_o q.1 q.2.1 q.2.2).trans hb
                                        replace hY := khv8 _ _ ⟨fun q => by rw [q] at hY; have := faw.symm.trans hY; first | cases this | simp at this, fun q => by rw [q] at hY; have := fkw.symm.trans hY; first | cases this | simp at this, fun q => by rw [q] at hY; have := fvw.symm.trans hY; first | cases this | simp at this⟩ hY
                                        replace hms := khv8 _ _ ⟨fun q => by rw [q] at hms; have := faw.symm.trans hms; first | cases this | simp at this, fun q => by rw [q] at hms; have := fkw.symm.trans hms; first | cases this | simp at this, fun q => by rw [q] at hms; have := fvw.symm.trans hms; first | cases this | simp at this⟩ hms
                                        replace hmb := khv8 _ _ ⟨fun q => by rw [q] at hmb; have := faw.symm.trans hmb; first | cases this | simp at this, fun q => by rw [q] at hmb; have := fkw.symm.trans hmb; first | cases this | simp at this, fun q => by rw [q] at hmb; have := fvw.symm.trans hmb; first | cases this | simp at this⟩ hmb
                                        replace faj := khv8 _ _ apj.1 faj
                                        replace fkj := khv8 _ _ apj.2.1 fkj
                                        replace fvj := khv8 _ _ apj.2.2 fvj
                                        replace fak := khv8 _ _ apk.1 fak
                                        replace fkk := khv8 _ _ apk.2.1 fkk
                                        replace fvk := khv8 _ _ apk.2.2 fvk
                                        replace fr := fun b o hb n1 n2 => khv8 b o n2 (fr b o hb n1 n2)
                                        clear faw fkw fvw
                                        have faw := r9.2.2.2.1
                                        have fkw := r9.2.2.2.2.1
                                        have fvw := r9.2.2.2.2.2
                                        unfold qRb at faw
                                        unfold qJr at fkw fvw
                                        clear r9 ehv8
                                        replace lw : qLs ((S j).1) (qSd fW tt (nW - 1)) (qSd gW tt (nW - 1)) (nW - 1) = (qLs (S j).1 Fj Gj (tt + 1) ++ xMt (S k).2.1 p3 ((qLs (S j).1 Fj Gj nj).drop (tt + 1))).eraseIdx tt := by rw [qLs_rem (by omega), lw]
                                        refine lv_iinc (v := nI tt - nI 1) (lv' := [(6, .int (nI tt - nI 1)), (5, .int (nI nj)), (0, .ref y), (1, .int (nI i)), (2, .int (nI j)), (3, .int (nI k)), (4, .int p3)]) hx hb dX8_meet_170 hl (k := 0) rfl (q_dec1 tt) (by decide) rfl (fun ls hl => ?_)
                                        refine lv_goto (tgt := 124) hx hb dX8_meet_173 (by decide) ?_
                                        have lw2 : qLs (S j).1 (qSd fW tt (nW - 1)) (qSd gW tt (nW - 1)) (nW - 1) = qLs (S j).1 Fj Gj tt ++ xMt (S k).2.1 p3 ((qLs (S j).1 Fj Gj nj).drop tt) := by
                                          rw [lw, qLs_succ, List.append_assoc, List.eraseIdx_append_of_length_le (by rw [qLs_len]; omega), qLs_len, Nat.sub_self, eD]
                                          unfold xMt
                                          rw [List.filter_cons, if_neg (by simp only [decide_eq_true_eq, Classical.not_not]; rw [eT] at hx8; rw [hx8]; first | exact c158 | (simpa using c158))]
                                          rfl
                                        exact ihl H locs ls hv8 _ _ (nW - 1) tt (by omega) hY hms hmb faw fkw fvw faj fkj fvj fak fkk fvk fr lw2 ⟨by omega, by omega, by omega⟩ (lv_sub hl [0, 1, 2, 3, 4, 5, 6] rfl) hP hS
                            · replace c84 : 1 = 0 := (nI_eq (a := 1) (b := 0) (by omega) (by omega)).mp c84
                              exfalso; omega
                          · rw [if_neg cf]
                            refine lv_iconst (v := nI 3) hx hb dX8_meet_80 (by decide) ?_
                            refine q_callV (rest := []) C (c_X8_good0 l D cy N0 hv4 y ms mb (ra 28) od pt fi re rc rs so ot cn la ro gr 0 ca (nI m0) ct fau cs ce rn (nI 3) hY) kX8_good g1249 g1251 rfl gp41 g4 hP hS hY (by first | decide | omega) hl.1 rfl (by decide) (by first | decide | omega) dX8_meet_81 (fun q ce E h' H1 locs1 hE => hE.elim) (fun v hh17 H locs hq hP hS => ?_)
                            obtain ⟨rfl, rfl⟩ := hq
                            replace hP : qP D N0 (qs hv4 y (.inr (8, [.ref ms, .ref mb, .ref (ra 28), .int gr, .int (nI 3), .int ca, .int (nI m0), .ref od, .ref pt, .int ct, .int fau, .ref fi, .ref re, .int cs, .ref rc, .ref rs, .ref so, .ref ot, .ref cn, .ref la, .int ce, .ref ro, .int rn]))) H := hP
                            obtain ⟨hv9, ehv9⟩ : ∃ z : qH, z = qs hv4 y (.inr (8, [.ref ms, .ref mb, .ref (ra 28), .int gr, .int (nI 3), .int ca, .int (nI m0), .ref od, .ref pt, .int ct, .int fau, .ref fi, .ref re, .int cs, .ref rc, .ref rs, .ref so, .ref ot, .ref cn, .ref la, .int ce, .ref ro, .int rn])) := ⟨_, rfl⟩
                            rw [← ehv9] at hP
                            have khv9 : ∀ b o, b ≠ y → hv4 b = some o → hv9 b = some o := by rw [ehv9]; exact fun b o nb hb => (qs_ne nb).trans hb
                            replace hms := khv9 _ _ (fun q => by subst q; have := hms.symm.trans hY; first | cases this | simp at this) hms
                            replace hmb := khv9 _ _ (fun q => by subst q; have := hmb.symm.trans hY; first | cases this | simp at this) hmb
                            replace faw := khv9 _ _ (fun q => by have z9 := faw; rw [q] at z9; have := z9.symm.trans hY; first | cases this | simp at this) faw
                            replace fkw := khv9 _ _ (fun q => by have z9 := fkw; rw [q] at z9; have := z9.symm.trans hY; first | cases this | simp at this) fkw
                            replace fvw := khv9 _ _ (fun q => by have z9 := fvw; rw [q] at z9; have := z9.symm.trans hY; first | cases this | simp at this) fvw
                            replace faj := khv9 _ _ (fun q => by have z9 := faj; rw [q] at z9; have := z9.symm.trans hY; first | cases this | simp at this) faj
                            replace fkj := khv9 _ _ (fun q => by have z9 := fkj; rw [q] at z9; have := z9.symm.trans hY; first | cases this | simp at this) fkj
                            replace fvj := khv9 _ _ (fun q => by have z9 := fvj; rw [q] at z9; have := z9.symm.trans hY; first | cases this | simp at this) fvj
                            replace fak := khv9 _ _ (fun q => by have z9 := fak; rw [q] at z9; have := z9.symm.trans hY; first | cases this | simp at this) fak
                            replace fkk := khv9 _ _ (fun q => by have z9 := fkk; rw [q] at z9; have := z9.symm.trans hY; first | cases this | simp at this) fkk
                            replace fvk := khv9 _ _ (fun q => by have z9 := fvk; rw [q] at z9; have := z9.symm.trans hY; first | cases this | simp at this) fvk
                            replace hY : hv9 y = some (.inr (8, [.ref ms, .ref mb, .ref (ra 28), .int gr, .int (nI 3), .int ca, .int (nI m0), .ref od, .ref pt, .int ct, .int fau, .ref fi, .ref re, .int cs, .ref rc, .ref rs, .ref so, .ref ot, .ref cn, .ref la, .int ce, .ref ro, .int rn])) := by rw [ehv9]; exact qs_self
                            clear ehv9
                            replace fr := fun b o hb n1 n2 => khv9 b o n1 (fr b o hb n1 n2)
                            refine lv_if_ne (tgt := 89) hx hb dX8_meet_84 (by decide) (fun c84 => ?_) (fun c84 => ?_)
                            · replace c84 : ¬ 0 = 0 := fun zq => c84 ((nI_eq (a := 0) (b := 0) (by omega) (by omega)).mpr zq)
                              exfalso; omega
                            · replace c84 : 0 = 0 := (nI_eq (a := 0) (b := 0) (by omega) (by omega)).mp c84
                              refine lv_iconst (v := nI 0) hx hb dX8_meet_87 (by decide) ?_
                              have ex : xs_meet S (nI i) (nI j) (nI k) p3 m0 = (3, S, 0, m0) := by (unfold xs_meet; rw [if_neg (by simp [ebi, ebj, ebk]), ecj, eck, if_neg (by simp [hoj, hok]), eci]; unfold xr_meet; rw [show (S j).2.1.length = nj from (by rw [hLj, qLs_len]), if_pos (by omega)])
                              obtain ⟨m9, f9⟩ := hM.fin0 hY0 (h' := hv9) ⟨hRw.1, hRw.2.1, hRw.2.2.1, faw, fkw, fvw⟩ fr
                              exact q_iret C hP hS ⟨by first | (rw [ex]; done) | (rw [ex]; rfl), by rw [ex]; exact hY, by first | exact m9 | (rw [ex]; exact m9), f9⟩ (by omega) dX8_meet_88
          · have ebk : bSl p2 = false := bSl_f sl9
            refine lv_if_eq (tgt := 26) hx hb dX8_meet_19 (by decide) (fun c19 => ?_) (fun c19 => ?_)
            · replace c19 : 0 = 0 := (nI_eq (a := 0) (b := 0) (by omega) (by omega)).mp c19
              refine lv_iconst (v := nI 0) hx hb dX8_meet_26 (by decide) ?_
              refine lv_iconst (v := nI 1) hx hb dX8_meet_27 (by decide) ?_
              refine q_callV (rest := []) C (c_X8_good0 l D cy N0 h y ms mb (ra 28) od pt fi re rc rs so ot cn la ro gr cd ca (nI m0) ct fau cs ce rn (nI 1) hY) kX8_good g1249 g1251 rfl gp41 g4 hP hS hY (by first | decide | omega) hl.1 rfl (by decide) (by first | decide | omega) dX8_meet_28 (fun q ce E h' H1 locs1 hE => hE.elim) (fun v hh18 H locs hq hP hS => ?_)
              obtain ⟨rfl, rfl⟩ := hq
              replace hP : qP D N0 (qs h y (.inr (8, [.ref ms, .ref mb, .ref (ra 28), .int gr, .int (nI 1), .int ca, .int (nI m0), .ref od, .ref pt, .int ct, .int fau, .ref fi, .ref re, .int cs, .ref rc, .ref rs, .ref so, .ref ot, .ref cn, .ref la, .int ce, .ref ro, .int rn]))) H := hP
              obtain ⟨hv10, ehv10⟩ : ∃ z : qH, z = qs h y (.inr (8, [.ref ms, .ref mb, .ref (ra 28), .int gr, .int (nI 1), .int ca, .int (nI m0), .ref od, .ref pt, .int ct, .int fau, .ref fi, .ref re, .int cs, .ref rc, .ref rs, .ref so, .ref ot, .ref cn, .ref la, .int ce, .ref ro, .int rn])) := ⟨_, rfl⟩
              rw [← ehv10] at hP
              have khv10 : ∀ b o, b ≠ y → h b = some o → hv10 b = some o := by rw [ehv10]; exact fun b o nb hb => (qs_ne nb).trans hb
              replace hms := khv10 _ _ (fun q => by subst q; have := hms.symm.trans hY; first | cases this | simp at this) hms
              replace hmb := khv10 _ _ (fun q => by subst q; have := hmb.symm.trans hY; first | cases this | simp at this) hmb
              replace faw := khv10 _ _ (fun q => by have z9 := faw; rw [q] at z9; have := z9.symm.trans hY; first | cases this | simp at this) faw
              replace fkw := khv10 _ _ (fun q => by have z9 := fkw; rw [q] at z9; have := z9.symm.trans hY; first | cases this | simp at this) fkw
              replace fvw := khv10 _ _ (fun q => by have z9 := fvw; rw [q] at z9; have := z9.symm.trans hY; first | cases this | simp at this) fvw
              replace hY : hv10 y = some (.inr (8, [.ref ms, .ref mb, .ref (ra 28), .int gr, .int (nI 1), .int ca, .int (nI m0), .ref od, .ref pt, .int ct, .int fau, .ref fi, .ref re, .int cs, .ref rc, .ref rs, .ref so, .ref ot, .ref cn, .ref la, .int ce, .ref ro, .int rn])) := by rw [ehv10]; exact qs_self
              clear ehv10
              replace fr := fun b o hb n1 n2 => khv10 b o n1 (fr b o hb n1 n2)
              refine lv_if_eq (tgt := 87) hx hb dX8_meet_31 (by decide) (fun c31 => ?_) (fun c31 => ?_)
              · replace c31 : 0 = 0 := (nI_eq (a := 0) (b := 0) (by omega) (by omega)).mp c31
                refine lv_iconst (v := nI 0) hx hb dX8_meet_87 (by decide) ?_
                have ex : xs_meet S (nI i) (nI j) p2 p3 m0 = (1, S, 0, m0) := by (unfold xs_meet; rw [if_pos (by simp [ebi, ebj, ebk])])
                obtain ⟨m9, f9⟩ := hM.fin0 hY0 (h' := hv10) ⟨hRw.1, hRw.2.1, hRw.2.2.1, faw, fkw, fvw⟩ fr
                exact q_iret C hP hS ⟨by first | (rw [ex]; done) | (rw [ex]; rfl), by rw [ex]; exact hY, by first | exact m9 | (rw [ex]; exact m9), f9⟩ (by omega) dX8_meet_88
              · replace c31 : ¬ 0 = 0 := fun zq => c31 ((nI_eq (a := 0) (b := 0) (by omega) (by omega)).mpr zq)
                exfalso; omega
            · replace c19 : ¬ 0 = 0 := fun zq => c19 ((nI_eq (a := 0) (b := 0) (by omega) (by omega)).mpr zq)
              exfalso; omega
      · have ebj : bSl p1 = false := bSl_f sl9
        refine lv_if_eq (tgt := 26) hx hb dX8_meet_12 (by decide) (fun c12 => ?_) (fun c12 => ?_)
        · replace c12 : 0 = 0 := (nI_eq (a := 0) (b := 0) (by omega) (by omega)).mp c12
          refine lv_iconst (v := nI 0) hx hb dX8_meet_26 (by decide) ?_
          refine lv_iconst (v := nI 1) hx hb dX8_meet_27 (by decide) ?_
          refine q_callV (rest := []) C (c_X8_good0 l D cy N0 h y ms mb (ra 28) od pt fi re rc rs so ot cn la ro gr cd ca (nI m0) ct fau cs ce rn (nI 1) hY) kX8_good g1249 g1251 rfl gp41 g4 hP hS hY (by first | decide | omega) hl.1 rfl (by decide) (by first | decide | omega) dX8_meet_28 (fun q ce E h' H1 locs1 hE => hE.elim) (fun v hh19 H locs hq hP hS => ?_)
          obtain ⟨rfl, rfl⟩ := hq
          replace hP : qP D N0 (qs h y (.inr (8, [.ref ms, .ref mb, .ref (ra 28), .int gr, .int (nI 1), .int ca, .int (nI m0), .ref od, .ref pt, .int ct, .int fau, .ref fi, .ref re, .int cs, .ref rc, .ref rs, .ref so, .ref ot, .ref cn, .ref la, .int ce, .ref ro, .int rn]))) H := hP
          obtain ⟨hv11, ehv11⟩ : ∃ z : qH, z = qs h y (.inr (8, [.ref ms, .ref mb, .ref (ra 28), .int gr, .int (nI 1), .int ca, .int (nI m0), .ref od, .ref pt, .int ct, .int fau, .ref fi, .ref re, .int cs, .ref rc, .ref rs, .ref so, .ref ot, .ref cn, .ref la, .int ce, .ref ro, .int rn])) := ⟨_, rfl⟩
          rw [← ehv11] at hP
          have khv11 : ∀ b o, b ≠ y → h b = some o → hv11 b = some o := by rw [ehv11]; exact fun b o nb hb => (qs_ne nb).trans hb
          replace hms := khv11 _ _ (fun q => by subst q; have := hms.symm.trans hY; first | cases this | simp at this) hms
          replace hmb := khv11 _ _ (fun q => by subst q; have := hmb.symm.trans hY; first | cases this | simp at this) hmb
          replace faw := khv11 _ _ (fun q => by have z9 := faw; rw [q] at z9; have := z9.symm.trans hY; first | cases this | simp at this) faw
          replace fkw := khv11 _ _ (fun q => by have z9 := fkw; rw [q] at z9; have := z9.symm.trans hY; first | cases this | simp at this) fkw
          replace fvw := khv11 _ _ (fun q => by have z9 := fvw; rw [q] at z9; have := z9.symm.trans hY; first | cases this | simp at this) fvw
          replace hY : hv11 y = some (.inr (8, [.ref ms, .ref mb, .ref (ra 28), .int gr, .int (nI 1), .int ca, .int (nI m0), .ref od, .ref pt, .int ct, .int fau, .ref fi, .ref re, .int cs, .ref rc, .ref rs, .ref so, .ref ot, .ref cn, .ref la, .int ce, .ref ro, .int rn])) := by rw [ehv11]; exact qs_self
          clear ehv11
          replace fr := fun b o hb n1 n2 => khv11 b o n1 (fr b o hb n1 n2)
          refine lv_if_eq (tgt := 87) hx hb dX8_meet_31 (by decide) (fun c31 => ?_) (fun c31 => ?_)
          · replace c31 : 0 = 0 := (nI_eq (a := 0) (b := 0) (by omega) (by omega)).mp c31
            refine lv_iconst (v := nI 0) hx hb dX8_meet_87 (by decide) ?_
            have ex : xs_meet S (nI i) p1 p2 p3 m0 = (1, S, 0, m0) := by (unfold xs_meet; rw [if_pos (by simp [ebi, ebj])])
            obtain ⟨m9, f9⟩ := hM.fin0 hY0 (h' := hv11) ⟨hRw.1, hRw.2.1, hRw.2.2.1, faw, fkw, fvw⟩ fr
            exact q_iret C hP hS ⟨by first | (rw [ex]; done) | (rw [ex]; rfl), by rw [ex]; exact hY, by first | exact m9 | (rw [ex]; exact m9), f9⟩ (by omega) dX8_meet_88
          · replace c31 : ¬ 0 = 0 := fun zq => c31 ((nI_eq (a := 0) (b := 0) (by omega) (by omega)).mpr zq)
            exfalso; omega
        · replace c12 : ¬ 0 = 0 := fun zq => c12 ((nI_eq (a := 0) (b := 0) (by omega) (by omega)).mpr zq)
          exfalso; omega
  · have ebi : bSl p0 = false := bSl_f sl9
    refine lv_if_eq (tgt := 26) hx hb dX8_meet_5 (by decide) (fun c5 => ?_) (fun c5 => ?_)
    · replace c5 : 0 = 0 := (nI_eq (a := 0) (b := 0) (by omega) (by omega)).mp c5
      refine lv_iconst (v := nI 0) hx hb dX8_meet_26 (by decide) ?_
      refine lv_iconst (v := nI 1) hx hb dX8_meet_27 (by decide) ?_
      refine q_callV (rest := []) C (c_X8_good0 l D cy N0 h y ms mb (ra 28) od pt fi re rc rs so ot cn la ro gr cd ca (nI m0) ct fau cs ce rn (nI 1) hY) kX8_good g1249 g1251 rfl gp41 g4 hP hS hY (by first | decide | omega) hl.1 rfl (by decide) (by first | decide | omega) dX8_meet_28 (fun q ce E h' H1 locs1 hE => hE.elim) (fun v hh20 H locs hq hP hS => ?_)
      obtain ⟨rfl, rfl⟩ := hq
      replace hP : qP D N0 (qs h y (.inr (8, [.ref ms, .ref mb, .ref (ra 28), .int gr, .int (nI 1), .int ca, .int (nI m0), .ref od, .ref pt, .int ct, .int fau, .ref fi, .ref re, .int cs, .ref rc, .ref rs, .ref so, .ref ot, .ref cn, .ref la, .int ce, .ref ro, .int rn]))) H := hP
      obtain ⟨hv12, ehv12⟩ : ∃ z : qH, z = qs h y (.inr (8, [.ref ms, .ref mb, .ref (ra 28), .int gr, .int (nI 1), .int ca, .int (nI m0), .ref od, .ref pt, .int ct, .int fau, .ref fi, .ref re, .int cs, .ref rc, .ref rs, .ref so, .ref ot, .ref cn, .ref la, .int ce, .ref ro, .int rn])) := ⟨_, rfl⟩
      rw [← ehv12] at hP
      have khv12 : ∀ b o, b ≠ y → h b = some o → hv12 b = some o := by rw [ehv12]; exact fun b o nb hb => (qs_ne nb).trans hb
      replace hms := khv12 _ _ (fun q => by subst q; have := hms.symm.trans hY; first | cases this | simp at this) hms
      replace hmb := khv12 _ _ (fun q => by subst q; have := hmb.symm.trans hY; first | cases this | simp at this) hmb
      replace faw := khv12 _ _ (fun q => by have z9 := faw; rw [q] at z9; have := z9.symm.trans hY; first | cases this | simp at this) faw
      replace fkw := khv12 _ _ (fun q => by have z9 := fkw; rw [q] at z9; have := z9.symm.trans hY; first | cases this | simp at this) fkw
      replace fvw := khv12 _ _ (fun q => by have z9 := fvw; rw [q] at z9; have := z9.symm.trans hY; first | cases this | simp at this) fvw
      replace hY : hv12 y = some (.inr (8, [.ref ms, .ref mb, .ref (ra 28), .int gr, .int (nI 1), .int ca, .int (nI m0), .ref od, .ref pt, .int ct, .int fau, .ref fi, .ref re, .int cs, .ref rc, .ref rs, .ref so, .ref ot, .ref cn, .ref la, .int ce, .ref ro, .int rn])) := by rw [ehv12]; exact qs_self
      clear ehv12
      replace fr := fun b o hb n1 n2 => khv12 b o n1 (fr b o hb n1 n2)
      refine lv_if_eq (tgt := 87) hx hb dX8_meet_31 (by decide) (fun c31 => ?_) (fun c31 => ?_)
      · replace c31 : 0 = 0 := (nI_eq (a := 0) (b := 0) (by omega) (by omega)).mp c31
        refine lv_iconst (v := nI 0) hx hb dX8_meet_87 (by decide) ?_
        have ex : xs_meet S p0 p1 p2 p3 m0 = (1, S, 0, m0) := by (unfold xs_meet; rw [if_pos (by simp [ebi])])
        obtain ⟨m9, f9⟩ := hM.fin0 hY0 (h' := hv12) ⟨hRw.1, hRw.2.1, hRw.2.2.1, faw, fkw, fvw⟩ fr
        exact q_iret C hP hS ⟨by first | (rw [ex]; done) | (rw [ex]; rfl), by rw [ex]; exact hY, by first | exact m9 | (rw [ex]; exact m9), f9⟩ (by omega) dX8_meet_88
      · replace c31 : ¬ 0 = 0 := fun zq => c31 ((nI_eq (a := 0) (b := 0) (by omega) (by omega)).mpr zq)
        exfalso; omega
    · replace c5 : ¬ 0 = 0 := fun zq => c5 ((nI_eq (a := 0) (b := 0) (by omega) (by omega)).mpr zq)
      exfalso; omega
