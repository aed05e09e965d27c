theorem dX8_fits_0 : decode cX8_fits 0 = .ok (.iload_n 1, 1) := by decide +kernel
theorem dX8_fits_1 : decode cX8_fits 1 = .ok (.sipush 1000, 3) := by decide +kernel
theorem dX8_fits_4 : decode cX8_fits 4 = .ok (.if_icmp .gt 19, 3) := by decide +kernel
theorem dX8_fits_7 : decode cX8_fits 7 = .ok (.aload_n 0, 1) := by decide +kernel
theorem dX8_fits_8 : decode cX8_fits 8 = .ok (.getfield 124, 3) := by decide +kernel
theorem dX8_fits_11 : decode cX8_fits 11 = .ok (.iload_n 2, 1) := by decide +kernel
theorem dX8_fits_12 : decode cX8_fits 12 = .ok (.iadd, 1) := by decide +kernel
theorem dX8_fits_13 : decode cX8_fits 13 = .ok (.sipush 20000, 3) := by decide +kernel
theorem dX8_fits_16 : decode cX8_fits 16 = .ok (.if_icmp .gt 7, 3) := by decide +kernel
theorem dX8_fits_19 : decode cX8_fits 19 = .ok (.iconst 1, 1) := by decide +kernel
theorem dX8_fits_20 : decode cX8_fits 20 = .ok (.goto 4, 3) := by decide +kernel
theorem dX8_fits_23 : decode cX8_fits 23 = .ok (.iconst 0, 1) := by decide +kernel
theorem dX8_fits_24 : decode cX8_fits 24 = .ok (.ireturn, 1) := by decide +kernel
set_option maxRecDepth 100000 in
set_option maxHeartbeats 4000000 in
theorem c_X8_fits (l : Launch) (D : va_G) (cy : Nat → ClassId) (N0 : Nat) (h : qH) (y m0 a0 c0 : Nat) (fs : List Value) (hY : h y = some (.inr (8, fs))) (hy6 : fs[6]? = some (.int (nI m0))) (ha0 : a0 < 1000000) (hc0 : c0 < 1000000 ∧ m0 < 1000000) : qC l D cy N0 yX8_fits cX8_fits 3 (some .boolean) 0 0 0 0 [.ref y, .int (nI a0), .int (nI c0)] h (fun v h' => v = some (.int (nI (if a0 ≤ 1000 ∧ m0 + c0 ≤ 20000 then 1 else 0))) ∧ h = h') (fun E h' => False) := by
  refine q_ofW (by decide) (by exact Nat.le_of_ble_eq_true rfl) ?_
  intro p e s m below meth c ls C hP hl
  have hx := C.1
  have hb := C.2.1
  have hS : va_S (qA N0) s.heap s.heap [] := va_S.rf
  have hl : lv_has ls 3 [(0, .ref y), (1, .int (nI a0)), (2, .int (nI c0))] := hl
  have hle : qle h h := qle_rf
  refine lv_iload_n hx hb dX8_fits_0 rfl (lv_at hl 1 rfl) ?_
  refine lv_sipush (v := nI 1000) hx hb dX8_fits_1 (by decide) ?_
  refine lv_icmp_gt (tgt := 23) hx hb dX8_fits_4 (by decide) (fun c4 => ?_) (fun c4 => ?_)
  · replace c4 : 1000 < a0 := (nI_ltI (a := 1000) (b := a0) (by omega) (by omega)).mp c4
    refine lv_iconst (v := nI 0) hx hb dX8_fits_23 (by decide) ?_
    exact q_zret C hP hS (Or.inl rfl) ⟨by rw [if_neg (by omega)], rfl⟩ (by omega) dX8_fits_24
  · replace c4 : ¬ 1000 < a0 := fun zq => c4 ((nI_ltI (a := 1000) (b := a0) (by omega) (by omega)).mpr zq)
    refine lv_aload_n hx hb dX8_fits_7 rfl (lv_at hl 0 rfl) ?_
    refine q_get C hP hY rfl inX8 6 (by decide) g1173 hy6 dX8_fits_8 ?_
    refine lv_iload_n hx hb dX8_fits_11 rfl (lv_at hl 2 rfl) ?_
    refine q_iaddN hx hb dX8_fits_12 ?_
    refine lv_sipush (v := nI 20000) hx hb dX8_fits_13 (by decide) ?_
    refine lv_icmp_gt (tgt := 23) hx hb dX8_fits_16 (by decide) (fun c16 => ?_) (fun c16 => ?_)
    · replace c16 : 20000 < (m0 + c0) := (nI_ltI (a := 20000) (b := (m0 + c0)) (by omega) (by omega)).mp c16
      refine lv_iconst (v := nI 0) hx hb dX8_fits_23 (by decide) ?_
      exact q_zret C hP hS (Or.inl rfl) ⟨by rw [if_neg (by omega)], rfl⟩ (by omega) dX8_fits_24
    · replace c16 : ¬ 20000 < (m0 + c0) := fun zq => c16 ((nI_ltI (a := 20000) (b := (m0 + c0)) (by omega) (by omega)).mpr zq)
      refine lv_iconst (v := nI 1) hx hb dX8_fits_19 (by decide) ?_
      refine lv_goto (tgt := 24) hx hb dX8_fits_20 (by decide) ?_
      exact q_zret C hP hS (Or.inr rfl) ⟨by rw [if_pos (by omega)], rfl⟩ (by omega) dX8_fits_24

def qDf (f : Nat → Int64) (q i : Nat) : Nat → Int64 := fun j => if j < i then f (j + q) else f j
theorem qDf_0 {f : Nat → Int64} {q : Nat} : qDf f q 0 = f := funext fun j => if_neg (by omega)
theorem qDf_step {f : Nat → Int64} {q i : Nat} : vp_updL (qDf f q i) i (qDf f q i (i + q)) = qDf f q (i + 1) := by
  funext j
  unfold vp_updL qDf
  rw [if_neg (show ¬ i + q < i by omega)]
  by_cases c : j = i
  · subst c; rw [if_pos rfl, if_pos (by omega)]
  · rw [if_neg c]
    by_cases c2 : j < i
    · rw [if_pos c2, if_pos (by omega)]
    · rw [if_neg c2, if_neg (by omega)]
theorem qLs_drop {f g : Nat → Int64} {n q i : Nat} (h : q ≤ n) (hi : n - q ≤ i) : qLs 0 (qDf f q i) g (n - q) = (qLs 0 f g n).drop q := by
  refine qLs_eq (by rw [List.length_drop, qLs_len]) (fun j hj => ?_)
  rw [List.getElem?_drop, qLs_get2 (by omega)]
  unfold qDf
  rw [if_pos (by omega), show q + j = j + q by omega]
  rfl
def xr_drop (S : Nat → qSlot) (i j : Nat) (p2 p3 : Int32) : Int32 × (Nat → qSlot) × Int32 := if (S j).2.1.length < p2.toNatClampNeg then (3, S, 0) else (0, qU S i ((S j).1, if p3 = 0 then (S j).2.1.take ((S j).2.1.length - p2.toNatClampNeg) else (S j).2.1.drop p2.toNatClampNeg, (S j).2.2), nI ((S j).2.1.length - p2.toNatClampNeg))
def xs_drop (S : Nat → qSlot) (p0 p1 p2 p3 : Int32) : Int32 × (Nat → qSlot) × Int32 := if bSl p0 = false ∨ bSl p1 = false ∨ p2 < 0 then (1, S, 0) else if bHo (S p1.toNatClampNeg).1 1 = false then (2, S, 0) else xr_drop S p0.toNatClampNeg p1.toNatClampNeg p2 p3
theorem dX8_drop_45 : decode cX8_drop 45 = .ok (.aload_n 0, 1) := by decide +kernel
theorem dX8_drop_46 : decode cX8_drop 46 = .ok (.iload_n 3, 1) := by decide +kernel
theorem dX8_drop_47 : decode cX8_drop 47 = .ok (.aload_n 0, 1) := by decide +kernel
theorem dX8_drop_48 : decode cX8_drop 48 = .ok (.getfield 9, 3) := by decide +kernel
theorem dX8_drop_51 : decode cX8_drop 51 = .ok (.iload_n 2, 1) := by decide +kernel
theorem dX8_drop_52 : decode cX8_drop 52 = .ok (.aaload, 1) := by decide +kernel
theorem dX8_drop_53 : decode cX8_drop 53 = .ok (.getfield 78, 3) := by decide +kernel
theorem dX8_drop_56 : decode cX8_drop 56 = .ok (.if_icmp .gt 7, 3) := by decide +kernel
theorem dX8_drop_59 : decode cX8_drop 59 = .ok (.iconst 1, 1) := by decide +kernel
theorem dX8_drop_60 : decode cX8_drop 60 = .ok (.goto 4, 3) := by decide +kernel
theorem dX8_drop_63 : decode cX8_drop 63 = .ok (.iconst 0, 1) := by decide +kernel
theorem dX8_drop_64 : decode cX8_drop 64 = .ok (.iconst 3, 1) := by decide +kernel
theorem dX8_drop_65 : decode cX8_drop 65 = .ok (.invokevirtual 100, 3) := by decide +kernel
theorem dX8_drop_68 : decode cX8_drop 68 = .ok (.ifCond .ne 5, 3) := by decide +kernel
theorem dX8_drop_73 : decode cX8_drop 73 = .ok (.aload_n 0, 1) := by decide +kernel
theorem dX8_drop_74 : decode cX8_drop 74 = .ok (.getfield 9, 3) := by decide +kernel
theorem dX8_drop_77 : decode cX8_drop 77 = .ok (.iload_n 2, 1) := by decide +kernel
theorem dX8_drop_78 : decode cX8_drop 78 = .ok (.aaload, 1) := by decide +kernel
theorem dX8_drop_79 : decode cX8_drop 79 = .ok (.aload_n 0, 1) := by decide +kernel
theorem dX8_drop_80 : decode cX8_drop 80 = .ok (.getfield 19, 3) := by decide +kernel
theorem dX8_drop_83 : decode cX8_drop 83 = .ok (.invokestatic 104, 3) := by decide +kernel
theorem dX8_drop_86 : decode cX8_drop 86 = .ok (.iload 4, 2) := by decide +kernel
theorem dX8_drop_88 : decode cX8_drop 88 = .ok (.ifCond .eq 48, 3) := by decide +kernel
theorem dX8_drop_91 : decode cX8_drop 91 = .ok (.iconst 0, 1) := by decide +kernel
theorem dX8_drop_92 : decode cX8_drop 92 = .ok (.istore 5, 2) := by decide +kernel
theorem dX8_drop_94 : decode cX8_drop 94 = .ok (.iload 5, 2) := by decide +kernel
theorem dX8_drop_96 : decode cX8_drop 96 = .ok (.iload_n 3, 1) := by decide +kernel
theorem dX8_drop_97 : decode cX8_drop 97 = .ok (.iadd, 1) := by decide +kernel
theorem dX8_drop_98 : decode cX8_drop 98 = .ok (.aload_n 0, 1) := by decide +kernel
theorem dX8_drop_99 : decode cX8_drop 99 = .ok (.getfield 19, 3) := by decide +kernel
theorem dX8_drop_102 : decode cX8_drop 102 = .ok (.getfield 78, 3) := by decide +kernel
theorem dX8_drop_105 : decode cX8_drop 105 = .ok (.if_icmp .ge 31, 3) := by decide +kernel
theorem dX8_drop_108 : decode cX8_drop 108 = .ok (.aload_n 0, 1) := by decide +kernel
theorem dX8_drop_109 : decode cX8_drop 109 = .ok (.getfield 19, 3) := by decide +kernel
theorem dX8_drop_112 : decode cX8_drop 112 = .ok (.getfield 90, 3) := by decide +kernel
theorem dX8_drop_115 : decode cX8_drop 115 = .ok (.iload 5, 2) := by decide +kernel
theorem dX8_drop_117 : decode cX8_drop 117 = .ok (.aload_n 0, 1) := by decide +kernel
theorem dX8_drop_118 : decode cX8_drop 118 = .ok (.getfield 19, 3) := by decide +kernel
theorem dX8_drop_121 : decode cX8_drop 121 = .ok (.getfield 90, 3) := by decide +kernel
theorem dX8_drop_124 : decode cX8_drop 124 = .ok (.iload 5, 2) := by decide +kernel
theorem dX8_drop_126 : decode cX8_drop 126 = .ok (.iload_n 3, 1) := by decide +kernel
theorem dX8_drop_127 : decode cX8_drop 127 = .ok (.iadd, 1) := by decide +kernel
theorem dX8_drop_128 : decode cX8_drop 128 = .ok (.laload, 1) := by decide +kernel
theorem dX8_drop_129 : decode cX8_drop 129 = .ok (.lastore, 1) := by decide +kernel
theorem dX8_drop_130 : decode cX8_drop 130 = .ok (.iinc 5 1, 3) := by decide +kernel
theorem dX8_drop_133 : decode cX8_drop 133 = .ok (.goto (-39), 3) := by decide +kernel
theorem dX8_drop_136 : decode cX8_drop 136 = .ok (.aload_n 0, 1) := by decide +kernel
theorem dX8_drop_137 : decode cX8_drop 137 = .ok (.getfield 19, 3) := by decide +kernel
theorem dX8_drop_140 : decode cX8_drop 140 = .ok (.dup, 1) := by decide +kernel
theorem dX8_drop_141 : decode cX8_drop 141 = .ok (.getfield 78, 3) := by decide +kernel
theorem dX8_drop_144 : decode cX8_drop 144 = .ok (.iload_n 3, 1) := by decide +kernel
theorem dX8_drop_145 : decode cX8_drop 145 = .ok (.isub, 1) := by decide +kernel
theorem dX8_drop_146 : decode cX8_drop 146 = .ok (.putfield 78, 3) := by decide +kernel
theorem dX8_drop_149 : decode cX8_drop 149 = .ok (.aload_n 0, 1) := by decide +kernel
theorem dX8_drop_150 : decode cX8_drop 150 = .ok (.iload_n 1, 1) := by decide +kernel
theorem dX8_drop_151 : decode cX8_drop 151 = .ok (.iconst 0, 1) := by decide +kernel
theorem dX8_drop_152 : decode cX8_drop 152 = .ok (.invokevirtual 135, 3) := by decide +kernel
theorem dX8_drop_155 : decode cX8_drop 155 = .ok (.ireturn, 1) := by decide +kernel
set_option maxRecDepth 100000 in
set_option maxHeartbeats 4000000 in
theorem c_X8_drop (l : Launch) (D : va_G) (cy : Nat → ClassId) (N0 : Nat) (h : qH) (y ms mb mw od pt fi re rc rs so ot cn la ro : Nat) (gr cd ca mv ct fau cs ce rn : Int32) (ra rk rv : Nat → Nat) (S : Nat → qSlot) (p0 p1 p2 p3 : Int32) (hY : h y = some (.inr (8, [.ref ms, .ref mb, .ref mw, .int gr, .int cd, .int ca, .int mv, .ref od, .ref pt, .int ct, .int fau, .ref fi, .ref re, .int cs, .ref rc, .ref rs, .ref so, .ref ot, .ref cn, .ref la, .int ce, .ref ro, .int rn]))) (hM : qMR cy h ms mb mw ra rk rv S) (hI : ∀ i, i < 28 → qOk (S i).1 (S i).2.1) : qC l D cy N0 yX8_drop cX8_drop 6 (some .int) 2 60 0 0 [.ref y, .int p0, .int p1, .int p2, .int p3] h (fun v h' => v = some (.int (xs_drop S p0 p1 p2 p3).2.2) ∧ h' y = some (.inr (8, [.ref ms, .ref mb, .ref mw, .int gr, .int (xs_drop S p0 p1 p2 p3).1, .int ca, .int mv, .ref od, .ref pt, .int ct, .int fau, .ref fi, .ref re, .int cs, .ref rc, .ref rs, .ref so, .ref ot, .ref cn, .ref la, .int ce, .ref ro, .int rn])) ∧ qMR cy h' ms mb mw ra rk rv ((xs_drop S p0 p1 p2 p3).2.1) ∧ qFm h h' y ra rk rv) (fun E h' => False) := by
  refine q_ofW (by decide) (by exact Nat.le_of_ble_eq_true rfl) ?_
  intro p e s m below meth c ls C hP hl
  have hx := C.1
  have hb := C.2.1
  have hS : va_S (qA N0) s.heap s.heap [] := va_S.rf
  have hl : lv_has ls 6 [(0, .ref y), (1, .int p0), (2, .int p1), (3, .int p2), (4, .int p3)] := hl
  have hle : qle h h := qle_rf
  have hY0 := hY
  obtain ⟨hms, hmb, hmw, hmd, hrs, kdw, smw, dpw, rww, nw, fw, gw, hRw⟩ := id hM
  subst hmw
  have fr : ∀ b o, h b = some o → b ≠ y → qOf (ra 28) (rk 28) (rv 28) b → h b = some o := fun b o hb _ _ => hb
  have faw := hRw.2.2.2.1
  have fkw := hRw.2.2.2.2.1
  have fvw := hRw.2.2.2.2.2
  unfold qRb at faw
  unfold qJr at fkw fvw
  refine lv_aload_n hx hb dX8_drop_0 rfl (lv_at hl 0 rfl) ?_
  refine lv_iload_n hx hb dX8_drop_1 rfl (lv_at hl 1 rfl) ?_
  refine q_callS (rest := [.ref y]) C (c_X8_isSlot l D cy N0 h p0) kX8_isSlot g1246 g1247 hP hS (by first | decide | omega) hl.1 rfl (by simp [q_catrf, q_cati, q_catl, q_cata, q_catn]) (by first | decide | omega) dX8_drop_2 (fun q ce E h' H1 locs1 hE => hE.elim) (fun v hh1 H locs hq hP hS => ?_)
  obtain ⟨rfl, ⟨rfl, sl9⟩ | ⟨rfl, sl9⟩⟩ := hq
  · obtain ⟨i, hi, rfl⟩ := sl9.of
    have ebi : bSl (nI i) = true := bSl_t sl9
    have eci : (nI i).toNatClampNeg = i := nI_clamp (by omega)
    refine lv_if_eq (tgt := 23) hx hb dX8_drop_5 (by decide) (fun c5 => ?_) (fun c5 => ?_)
    · replace c5 : 1 = 0 := (nI_eq (a := 1) (b := 0) (by omega) (by omega)).mp c5
      exfalso; omega
    · replace c5 : ¬ 1 = 0 := fun zq => c5 ((nI_eq (a := 1) (b := 0) (by omega) (by omega)).mpr zq)
      refine lv_iload_n hx hb dX8_drop_8 rfl (lv_at hl 2 rfl) ?_
      refine q_callS (rest := [.ref y]) C (c_X8_isSlot l D cy N0 h p1) kX8_isSlot g1246 g1247 hP hS (by first | decide | omega) hl.1 rfl (by simp [q_catrf, q_cati, q_catl, q_cata, q_catn]) (by first | decide | omega) dX8_drop_9 (fun q ce E h' H1 locs1 hE => hE.elim) (fun v hh2 H locs hq hP hS => ?_)
      obtain ⟨rfl, ⟨rfl, sl9⟩ | ⟨rfl, sl9⟩⟩ := hq
      · obtain ⟨j, hj, rfl⟩ := sl9.of
        have ebj : bSl (nI j) = true := bSl_t sl9
        have ecj : (nI j).toNatClampNeg = j := nI_clamp (by omega)
        refine lv_if_eq (tgt := 23) hx hb dX8_drop_12 (by decide) (fun c12 => ?_) (fun c12 => ?_)
        · replace c12 : 1 = 0 := (nI_eq (a := 1) (b := 0) (by omega) (by omega)).mp c12
          exfalso; omega
        · replace c12 : ¬ 1 = 0 := fun zq => c12 ((nI_eq (a := 1) (b := 0) (by omega) (by omega)).mpr zq)
          refine lv_iload_n hx hb dX8_drop_15 rfl (lv_at hl 3 rfl) ?_
          refine lv_if_lt (tgt := 23) hx hb dX8_drop_16 (by decide) (fun c16 => ?_) (fun c16 => ?_)
          · refine lv_iconst (v := nI 0) hx hb dX8_drop_23 (by decide) ?_
            refine lv_iconst (v := nI 1) hx hb dX8_drop_24 (by decide) ?_
            refine q_callV (rest := []) C (c_X8_good0 l D cy N0 h y ms mb (ra 28) od pt fi re rc rs so ot cn la ro gr cd ca mv ct fau cs ce rn (nI 1) hY) kX8_good g1249 g1251 rfl gp41 g4 hP hS hY (by first | decide | omega) hl.1 rfl (by decide) (by first | decide | omega) dX8_drop_25 (fun q ce E h' H1 locs1 hE => hE.elim) (fun v hh3 H locs hq hP hS => ?_)
            obtain ⟨rfl, rfl⟩ := hq
            replace hP : qP D N0 (qs h y (.inr (8, [.ref ms, .ref mb, .ref (ra 28), .int gr, .int (nI 1), .int ca, .int mv, .ref od, .ref pt, .int ct, .int fau, .ref fi, .ref re, .int cs, .ref rc, .ref rs, .ref so, .ref ot, .ref cn, .ref la, .int ce, .ref ro, .int rn]))) H := hP
            obtain ⟨hv1, ehv1⟩ : ∃ z : qH, z = qs h y (.inr (8, [.ref ms, .ref mb, .ref (ra 28), .int gr, .int (nI 1), .int ca, .int mv, .ref od, .ref pt, .int ct, .int fau, .ref fi, .ref re, .int cs, .ref rc, .ref rs, .ref so, .ref ot, .ref cn, .ref la, .int ce, .ref ro, .int rn])) := ⟨_, rfl⟩
            rw [← ehv1] at hP
            have khv1 : ∀ b o, b ≠ y → h b = some o → hv1 b = some o := by rw [ehv1]; exact fun b o nb hb => (qs_ne nb).trans hb
            replace hms := khv1 _ _ (fun q => by subst q; have := hms.symm.trans hY; first | cases this | simp at this) hms
            replace hmb := khv1 _ _ (fun q => by subst q; have := hmb.symm.trans hY; first | cases this | simp at this) hmb
            replace faw := khv1 _ _ (fun q => by have z9 := faw; rw [q] at z9; have := z9.symm.trans hY; first | cases this | simp at this) faw
            replace fkw := khv1 _ _ (fun q => by have z9 := fkw; rw [q] at z9; have := z9.symm.trans hY; first | cases this | simp at this) fkw
            replace fvw := khv1 _ _ (fun q => by have z9 := fvw; rw [q] at z9; have := z9.symm.trans hY; first | cases this | simp at this) fvw
            replace hY : hv1 y = some (.inr (8, [.ref ms, .ref mb, .ref (ra 28), .int gr, .int (nI 1), .int ca, .int mv, .ref od, .ref pt, .int ct, .int fau, .ref fi, .ref re, .int cs, .ref rc, .ref rs, .ref so, .ref ot, .ref cn, .ref la, .int ce, .ref ro, .int rn])) := by rw [ehv1]; exact qs_self
            clear ehv1
            replace fr := fun b o hb n1 n2 => khv1 b o n1 (fr b o hb n1 n2)
            refine lv_if_eq (tgt := 71) hx hb dX8_drop_28 (by decide) (fun c28 => ?_) (fun c28 => ?_)
            · replace c28 : 0 = 0 := (nI_eq (a := 0) (b := 0) (by omega) (by omega)).mp c28
              refine lv_iconst (v := nI 0) hx hb dX8_drop_71 (by decide) ?_
              have ex : xs_drop S (nI i) (nI j) p2 p3 = (1, S, 0) := by (unfold xs_drop; rw [if_pos (Or.inr (Or.inr c16))])
              obtain ⟨m9, f9⟩ := hM.fin0 hY0 (h' := hv1) ⟨hRw.1, hRw.2.1, hRw.2.2.1, faw, fkw, fvw⟩ fr
              exact q_iret C hP hS ⟨by first | (rw [ex]; done) | (rw [ex]; rfl), by rw [ex]; exact hY, by first | exact m9 | (rw [ex]; exact m9), f9⟩ (by omega) dX8_drop_72
            · replace c28 : ¬ 0 = 0 := fun zq => c28 ((nI_eq (a := 0) (b := 0) (by omega) (by omega)).mpr zq)
              exfalso; omega
          · obtain ⟨q, hq9, rfl⟩ := nI_of c16
            have ecq : (nI q).toNatClampNeg = q := nI_clamp hq9
            have enq : ¬ nI q < 0 := nI_pos hq9
            refine lv_iconst (v := nI 1) hx hb dX8_drop_19 (by decide) ?_
            refine lv_goto (tgt := 24) hx hb dX8_drop_20 (by decide) ?_
            refine lv_iconst (v := nI 1) hx hb dX8_drop_24 (by decide) ?_
            refine q_callV (rest := []) C (c_X8_good1 l D cy N0 h y ms mb (ra 28) od pt fi re rc rs so ot cn la ro gr cd ca mv ct fau cs ce rn (nI 1) hY) kX8_good g1249 g1251 rfl gp41 g4 hP hS hY (by first | decide | omega) hl.1 rfl (by decide) (by first | decide | omega) dX8_drop_25 (fun q ce E h' H1 locs1 hE => hE.elim) (fun v hh4 H locs hq hP hS => ?_)
            obtain ⟨rfl, rfl⟩ := hq
            replace hP : qP D N0 (qs h y (.inr (8, [.ref ms, .ref mb, .ref (ra 28), .int gr, .int 0, .int ca, .int mv, .ref od, .ref pt, .int ct, .int fau, .ref fi, .ref re, .int cs, .ref rc, .ref rs, .ref so, .ref ot, .ref cn, .ref la, .int ce, .ref ro, .int rn]))) H := hP
            obtain ⟨hv2, ehv2⟩ : ∃ z : qH, z = qs h y (.inr (8, [.ref ms, .ref mb, .ref (ra 28), .int gr, .int 0, .int ca, .int mv, .ref od, .ref pt, .int ct, .int fau, .ref fi, .ref re, .int cs, .ref rc, .ref rs, .ref so, .ref ot, .ref cn, .ref la, .int ce, .ref ro, .int rn])) := ⟨_, rfl⟩
            rw [← ehv2] at hP
            have khv2 : ∀ b o, b ≠ y → h b = some o → hv2 b = some o := by rw [ehv2]; exact fun b o nb hb => (qs_ne nb).trans hb
            replace hms := khv2 _ _ (fun q => by subst q; have := hms.symm.trans hY; first | cases this | simp at this) hms
            replace hmb := khv2 _ _ (fun q => by subst q; have := hmb.symm.trans hY; first | cases this | simp at this) hmb
            replace faw := khv2 _ _ (fun q => by have z9 := faw; rw [q] at z9; have := z9.symm.trans hY; first | cases this | simp at this) faw
            replace fkw := khv2 _ _ (fun q => by have z9 := fkw; rw [q] at z9; have := z9.symm.trans hY; first | cases this | simp at this) fkw
            replace fvw := khv2 _ _ (fun q => by have z9 := fvw; rw [q] at z9; have := z9.symm.trans hY; first | cases this | simp at this) fvw
            replace hY : hv2 y = some (.inr (8, [.ref ms, .ref mb, .ref (ra 28), .int gr, .int 0, .int ca, .int mv, .ref od, .ref pt, .int ct, .int fau, .ref fi, .ref re, .int cs, .ref rc, .ref rs, .ref so, .ref ot, .ref cn, .ref la, .int ce, .ref ro, .int rn])) := by rw [ehv2]; exact qs_self
            clear ehv2
            replace fr := fun b o hb n1 n2 => khv2 b o n1 (fr b o hb n1 n2)
            refine lv_if_eq (tgt := 71) hx hb dX8_drop_28 (by decide) (fun c28 => ?_) (fun c28 => ?_)
            · replace c28 : 1 = 0 := (nI_eq (a := 1) (b := 0) (by omega) (by omega)).mp c28
              exfalso; omega
            · replace c28 : ¬ 1 = 0 := fun zq => c28 ((nI_eq (a := 1) (b := 0) (by omega) (by omega)).mpr zq)
              refine lv_aload_n hx hb dX8_drop_31 rfl (lv_at hl 0 rfl) ?_
              refine lv_aload_n hx hb dX8_drop_32 rfl (lv_at hl 0 rfl) ?_
              refine lv_iload_n hx hb dX8_drop_33 rfl (lv_at hl 2 rfl) ?_
              refine lv_iconst (v := nI 1) hx hb dX8_drop_34 (by decide) ?_
              obtain ⟨nj, rwj, Fj, Gj, hRj, hnj, hLj, hKj⟩ := hrs j (by omega)
              have apj := hRj.apart hRw (hmd.two (i := j) (j := 28) (by omega) (by omega) (by omega))
              replace hRj := hRj.keep2 (fun b o hb ho => fr b o ho (hRj.ney hY0 hb) (hb.elim (fun q => q ▸ apj.1) (fun hb => hb.elim (fun q => q ▸ apj.2.1) (fun q => q ▸ apj.2.2))))
              have faj := hRj.2.2.2.1
              have fkj := hRj.2.2.2.2.1
              have fvj := hRj.2.2.2.2.2
              unfold qRb at faj
              unfold qJr at fkj fvj
              refine q_callV (rest := [.ref y]) C (c_X8_holds l D cy N0 hv2 y ms ra rk rv j 1 _ _ _ _ _ _ _ _ hY rfl hms ⟨hRj.1, hRj.2.1, hRj.2.2.1, faj, fkj, fvj⟩ (by omega)) kX8_holds g1264 g1266 rfl gp42 g4 hP hS hY (by first | decide | omega) hl.1 rfl (by simp [q_catrf, q_cati, q_catl, q_cata, q_catn]) (by first | decide | omega) dX8_drop_35 (fun q ce E h' H1 locs1 hE => hE.elim) (fun v hh5 H locs hq hP hS => ?_)
              obtain ⟨rfl, rfl⟩ := hq
              cases hoj : bHo (S j).1 1 with
              | false =>
                refine lv_iconst (v := nI 2) hx hb dX8_drop_38 (by decide) ?_
                refine q_callV (rest := []) C (c_X8_good0 l D cy N0 hv2 y ms mb (ra 28) od pt fi re rc rs so ot cn la ro gr 0 ca mv ct fau cs ce rn (nI 2) hY) kX8_good g1249 g1251 rfl gp41 g4 hP hS hY (by first | decide | omega) hl.1 rfl (by decide) (by first | decide | omega) dX8_drop_39 (fun q ce E h' H1 locs1 hE => hE.elim) (fun v hh6 H locs hq hP hS => ?_)
                obtain ⟨rfl, rfl⟩ := hq
                replace hP : qP D N0 (qs hv2 y (.inr (8, [.ref ms, .ref mb, .ref (ra 28), .int gr, .int (nI 2), .int ca, .int mv, .ref od, .ref pt, .int ct, .int fau, .ref fi, .ref re, .int cs, .ref rc, .ref rs, .ref so, .ref ot, .ref cn, .ref la, .int ce, .ref ro, .int rn]))) H := hP
                obtain ⟨hv3, ehv3⟩ : ∃ z : qH, z = qs hv2 y (.inr (8, [.ref ms, .ref mb, .ref (ra 28), .int gr, .int (nI 2), .int ca, .int mv, .ref od, .ref pt, .int ct, .int fau, .ref fi, .ref re, .int cs, .ref rc, .ref rs, .ref so, .ref ot, .ref cn, .ref la, .int ce, .ref ro, .int rn])) := ⟨_, rfl⟩
                rw [← ehv3] at hP
                have khv3 : ∀ b o, b ≠ y → hv2 b = some o → hv3 b = some o := by rw [ehv3]; exact fun b o nb hb => (qs_ne nb).trans hb
                replace hms := khv3 _ _ (fun q => by subst q; have := hms.symm.trans hY; first | cases this | simp at this) hms
                replace hmb := khv3 _ _ (fun q => by subst q; have := hmb.symm.trans hY; first | cases this | simp at this) hmb
                replace faw := khv3 _ _ (fun q => by have z9 := faw; rw [q] at z9; have := z9.symm.trans hY; first | cases this | simp at this) faw
                replace fkw := khv3 _ _ (fun q => by have z9 := fkw; rw [q] at z9; have := z9.symm.trans hY; first | cases this | simp at this) fkw
                replace fvw := khv3 _ _ (fun q => by have z9 := fvw; rw [q] at z9; have := z9.symm.trans hY; first | cases this | simp at this) fvw
                replace faj := khv3 _ _ (fun q => by have z9 := faj; rw [q] at z9; have := z9.symm.trans hY; first | cases this | simp at this) faj
                replace fkj := khv3 _ _ (fun q => by have z9 := fkj; rw [q] at z9; have := z9.symm.trans hY; first | cases this | simp at this) fkj
                replace fvj := khv3 _ _ (fun q => by have z9 := fvj; rw [q] at z9; have := z9.symm.trans hY; first | cases this | simp at this) fvj
                replace hY : hv3 y = some (.inr (8, [.ref ms, .ref mb, .ref (ra 28), .int gr, .int (nI 2), .int ca, .int mv, .ref od, .ref pt, .int ct, .int fau, .ref fi, .ref re, .int cs, .ref rc, .ref rs, .ref so, .ref ot, .ref cn, .ref la, .int ce, .ref ro, .int rn])) := by rw [ehv3]; exact qs_self
                clear ehv3
                replace fr := fun b o hb n1 n2 => khv3 b o n1 (fr b o hb n1 n2)
                refine lv_if_eq (tgt := 71) hx hb dX8_drop_42 (by decide) (fun c42 => ?_) (fun c42 => ?_)
                · replace c42 : 0 = 0 := (nI_eq (a := 0) (b := 0) (by omega) (by omega)).mp c42
                  refine lv_iconst (v := nI 0) hx hb dX8_drop_71 (by decide) ?_
                  have ex : xs_drop S (nI i) (nI j) (nI q) p3 = (2, S, 0) := by (unfold xs_drop; rw [if_neg (by simp [ebi, ebj, enq]), ecj, if_pos (by simp [hoj])])
                  obtain ⟨m9, f9⟩ := hM.fin0 hY0 (h' := hv3) ⟨hRw.1, hRw.2.1, hRw.2.2.1, faw, fkw, fvw⟩ fr
                  exact q_iret C hP hS ⟨by first | (rw [ex]; done) | (rw [ex]; rfl), by rw [ex]; exact hY, by first | exact m9 | (rw [ex]; exact m9), f9⟩ (by omega) dX8_drop_72
                · replace c42 : ¬ 0 = 0 := fun zq => c42 ((nI_eq (a := 0) (b := 0) (by omega) (by omega)).mpr zq)
                  exfalso; omega
              | true =>
                refine lv_iconst (v := nI 2) hx hb dX8_drop_38 (by decide) ?_
                refine q_callV (rest := []) C (c_X8_good1 l D cy N0 hv2 y ms mb (ra 28) od pt fi re rc rs so ot cn la ro gr 0 ca mv ct fau cs ce rn (nI 2) hY) kX8_good g1249 g1251 rfl gp41 g4 hP hS hY (by first | decide | omega) hl.1 rfl (by decide) (by first | decide | omega) dX8_drop_39 (fun q ce E h' H1 locs1 hE => hE.elim) (fun v hh7 H locs hq hP hS => ?_)
                obtain ⟨rfl, rfl⟩ := hq
                replace hP : qP D N0 (qs hv2 y (.inr (8, [.ref ms, .ref mb, .ref (ra 28), .int gr, .int 0, .int ca, .int mv, .ref od, .ref pt, .int ct, .int fau, .ref fi, .ref re, .int cs, .ref rc, .ref rs, .ref so, .ref ot, .ref cn, .ref la, .int ce, .ref ro, .int rn]))) H := hP
                obtain ⟨hv4, ehv4⟩ : ∃ z : qH, z = qs hv2 y (.inr (8, [.ref ms, .ref mb, .ref (ra 28), .int gr, .int 0, .int ca, .int mv, .ref od, .ref pt, .int ct, .int fau, .ref fi, .ref re, .int cs, .ref rc, .ref rs, .ref so, .ref ot, .ref cn, .ref la, .int ce, .ref ro, .int rn])) := ⟨_, rfl⟩
                rw [← ehv4] at hP
                have khv4 : ∀ b o, b ≠ y → hv2 b = some o → hv4 b = some o := by rw [ehv4]; exact fun b o nb hb => (qs_ne nb).trans hb
                replace hms := khv4 _ _ (fun q => by subst q; have := hms.symm.trans hY; first | cases this | simp at this) hms
                replace hmb := khv4 _ _ (fun q => by subst q; have := hmb.symm.trans hY; first | cases this | simp at this) hmb
                replace faw := khv4 _ _ (fun q => by have z9 := faw; rw [q] at z9; have := z9.symm.trans hY; first | cases this | simp at this) faw
                replace fkw := khv4 _ _ (fun q => by have z9 := fkw; rw [q] at z9; have := z9.symm.trans hY; first | cases this | simp at this) fkw
                replace fvw := khv4 _ _ (fun q => by have z9 := fvw; rw [q] at z9; have := z9.symm.trans hY; first | cases this | simp at this) fvw
                replace faj := khv4 _ _ (fun q => by have z9 := faj; rw [q] at z9; have := z9.symm.trans hY; first | cases this | simp at this) faj
                replace fkj := khv4 _ _ (fun q => by have z9 := fkj; rw [q] at z9; have := z9.symm.trans hY; first | cases this | simp at this) fkj
                replace fvj := khv4 _ _ (fun q => by have z9 := fvj; rw [q] at z9; have := z9.symm.trans hY; first | cases this | simp at this) fvj
                replace hY : hv4 y = some (.inr (8, [.ref ms, .ref mb, .ref (ra 28), .int gr, .int 0, .int ca, .int mv, .ref od, .ref pt, .int ct, .int fau, .ref fi, .ref re, .int cs, .ref rc, .ref rs, .ref so, .ref ot, .ref cn, .ref la, .int ce, .ref ro, .int rn])) := by rw [ehv4]; exact qs_self
                clear ehv4
                replace fr := fun b o hb n1 n2 => khv4 b o n1 (fr b o hb n1 n2)
                refine lv_if_eq (tgt := 71) hx hb dX8_drop_42 (by decide) (fun c42 => ?_) (fun c42 => ?_)
                · replace c42 : 1 = 0 := (nI_eq (a := 1) (b := 0) (by omega) (by omega)).mp c42
                  exfalso; omega
                · replace c42 : ¬ 1 = 0 := fun zq => c42 ((nI_eq (a := 1) (b := 0) (by omega) (by omega)).mpr zq)
                  refine lv_aload_n hx hb dX8_drop_45 rfl (lv_at hl 0 rfl) ?_
                  refine lv_iload_n hx hb dX8_drop_46 rfl (lv_at hl 3 rfl) ?_
                  refine lv_aload_n hx hb dX8_drop_47 rfl (lv_at hl 0 rfl) ?_
                  refine q_get C hP hY rfl inX8 0 (by decide) g1167 rfl dX8_drop_48 ?_
                  refine lv_iload_n hx hb dX8_drop_51 rfl (lv_at hl 2 rfl) ?_
                  refine q_aaldR C hP hms rfl (by omega) (by omega) rfl dX8_drop_52 ?_
                  refine q_get C hP faj rfl inX7 3 (by decide) g1143 rfl dX8_drop_53 ?_
                  refine lv_icmp_gt (tgt := 63) hx hb dX8_drop_56 (by decide) (fun c56 => ?_) (fun c56 => ?_)
                  · replace c56 : nj < q := (nI_ltI (a := nj) (b := q) (by omega) (by omega)).mp c56
                    refine lv_iconst (v := nI 0) hx hb dX8_drop_63 (by decide) ?_
                    refine lv_iconst (v := nI 3) hx hb dX8_drop_64 (by decide) ?_
                    refine q_callV (rest := []) C (c_X8_good0 l D cy N0 hv4 y ms mb (ra 28) od pt fi re rc rs so ot cn la ro gr 0 ca mv ct fau cs ce rn (nI 3) hY) kX8_good g1249 g1251 rfl gp41 g4 hP hS hY (by first | decide | omega) hl.1 rfl (by decide) (by first | decide | omega) dX8_drop_65 (fun q ce E h' H1 locs1 hE => hE.elim) (fun v hh8 H locs hq hP hS => ?_)
                    obtain ⟨rfl, rfl⟩ := hq
                    replace hP : qP D N0 (qs hv4 y (.inr (8, [.ref ms, .ref mb, .ref (ra 28), .int gr, .int (nI 3), .int ca, .int mv, .ref od, .ref pt, .int ct, .int fau, .ref fi, .ref re, .int cs, .ref rc, .ref rs, .ref so, .ref ot, .ref cn, .ref la, .int ce, .ref ro, .int rn]))) H := hP
                    obtain ⟨hv5, ehv5⟩ : ∃ z : qH, z = qs hv4 y (.inr (8, [.ref ms, .ref mb, .ref (ra 28), .int gr, .int (nI 3), .int ca, .int mv, .ref od, .ref pt, .int ct, .int fau, .ref fi, .ref re, .int cs, .ref rc, .ref rs, .ref so, .ref ot, .ref cn, .ref la, .int ce, .ref ro, .int rn])) := ⟨_, rfl⟩
                    rw [← ehv5] at hP
                    have khv5 : ∀ b o, b ≠ y → hv4 b = some o → hv5 b = some o := by rw [ehv5]; exact fun b o nb hb => (qs_ne nb).trans hb
                    replace hms := khv5 _ _ (fun q => by subst q; have := hms.symm.trans hY; first | cases this | simp at this) hms
                    replace hmb := khv5 _ _ (fun q => by subst q; have := hmb.symm.trans hY; first | cases this | simp at this) hmb
                    replace faw := khv5 _ _ (fun q => by have z9 := faw; rw [q] at z9; have := z9.symm.trans hY; first | cases this | simp at this) faw
                    replace fkw := khv5 _ _ (fun q => by have z9 := fkw; rw [q] at z9; have := z9.symm.trans hY; first | cases this | simp at this) fkw
                    replace fvw := khv5 _ _ (fun q => by have z9 := fvw; rw [q] at z9; have := z9.symm.trans hY; first | cases this | simp at this) fvw
                    replace faj := khv5 _ _ (fun q => by have z9 := faj; rw [q] at z9; have := z9.symm.trans hY; first | cases this | simp at this) faj
                    replace fkj := khv5 _ _ (fun q => by have z9 := fkj; rw [q] at z9; have := z9.symm.trans hY; first | cases this | simp at this) fkj
                    replace fvj := khv5 _ _ (fun q => by have z9 := fvj; rw [q] at z9; have := z9.symm.trans hY; first | cases this | simp at this) fvj
                    replace hY : hv5 y = some (.inr (8, [.ref ms, .ref mb, .ref (ra 28), .int gr, .int (nI 3), .int ca, .int mv, .ref od, .ref pt, .int ct, .int fau, .ref fi, .ref re, .int cs, .ref rc, .ref rs, .ref so, .ref ot, .ref cn, .ref la, .int ce, .ref ro, .int rn])) := by rw [ehv5]; exact qs_self
                    clear ehv5
                    replace fr := fun b o hb n1 n2 => khv5 b o n1 (fr b o hb n1 n2)
                    refine lv_if_ne (tgt := 73) hx hb dX8_drop_68 (by decide) (fun c68 => ?_) (fun c68 => ?_)
                    · replace c68 : ¬ 0 = 0 := fun zq => c68 ((nI_eq (a := 0) (b := 0) (by omega) (by omega)).mpr zq)
                      exfalso; omega
                    · replace c68 : 0 = 0 := (nI_eq (a := 0) (b := 0) (by omega) (by omega)).mp c68
                      refine lv_iconst (v := nI 0) hx hb dX8_drop_71 (by decide) ?_
                      have elj : (S j).2.1.length = nj := by rw [hLj, qLs_len]
                      have ex : xs_drop S (nI i) (nI j) (nI q) p3 = (3, S, 0) := by (unfold xs_drop; rw [if_neg (by simp [ebi, ebj, enq]), ecj, if_neg (by simp [hoj]), eci]; unfold xr_drop; rw [ecq, elj, if_pos (by omega)])
                      obtain ⟨m9, f9⟩ := hM.fin0 hY0 (h' := hv5) ⟨hRw.1, hRw.2.1, hRw.2.2.1, faw, fkw, fvw⟩ fr
                      exact q_iret C hP hS ⟨by first | (rw [ex]; done) | (rw [ex]; rfl), by rw [ex]; exact hY, by first | exact m9 | (rw [ex]; exact m9), f9⟩ (by omega) dX8_drop_72
                  · replace c56 : ¬ nj < q := fun zq => c56 ((nI_ltI (a := nj) (b := q) (by omega) (by omega)).mpr zq)
                    refine lv_iconst (v := nI 1) hx hb dX8_drop_59 (by decide) ?_
                    refine lv_goto (tgt := 64) hx hb dX8_drop_60 (by decide) ?_
                    refine lv_iconst (v := nI 3) hx hb dX8_drop_64 (by decide) ?_
                    refine q_callV (rest := []) C (c_X8_good1 l D cy N0 hv4 y ms mb (ra 28) od pt fi re rc rs so ot cn la ro gr 0 ca mv ct fau cs ce rn (nI 3) hY) kX8_good g1249 g1251 rfl gp41 g4 hP hS hY (by first | decide | omega) hl.1 rfl (by decide) (by first | decide | omega) dX8_drop_65 (fun q ce E h' H1 locs1 hE => hE.elim) (fun v hh9 H locs hq hP hS => ?_)
                    obtain ⟨rfl, rfl⟩ := hq
                    replace hP : qP D N0 (qs hv4 y (.inr (8, [.ref ms, .ref mb, .ref (ra 28), .int gr, .int 0, .int ca, .int mv, .ref od, .ref pt, .int ct, .int fau, .ref fi, .ref re, .int cs, .ref rc, .ref rs, .ref so, .ref ot, .ref cn, .ref la, .int ce, .ref ro, .int rn]))) H := hP
                    obtain ⟨hv6, ehv6⟩ : ∃ z : qH, z = qs hv4 y (.inr (8, [.ref ms, .ref mb, .ref (ra 28), .int gr, .int 0, .int ca, .int mv, .ref od, .ref pt, .int ct, .int fau, .ref fi, .ref re, .int cs, .ref rc, .ref rs, .ref so, .ref ot, .ref cn, .ref la, .int ce, .ref ro, .int rn])) := ⟨_, rfl⟩
                    rw [← ehv6] at hP
                    have khv6 : ∀ b o, b ≠ y → hv4 b = some o → hv6 b = some o := by rw [ehv6]; exact fun b o nb hb => (qs_ne nb).trans hb
                    replace hms := khv6 _ _ (fun q => by subst q; have := hms.symm.trans hY; first | cases this | simp at this) hms
                    replace hmb := khv6 _ _ (fun q => by subst q; have := hmb.symm.trans hY; first | cases this | simp at this) hmb
                    replace faw := khv6 _ _ (fun q => by have z9 := faw; rw [q] at z9; have := z9.symm.trans hY; first | cases this | simp at this) faw
                    replace fkw := khv6 _ _ (fun q => by have z9 := fkw; rw [q] at z9; have := z9.symm.trans hY; first | cases this | simp at this) fkw
                    replace fvw := khv6 _ _ (fun q => by have z9 := fvw; rw [q] at z9; have := z9.symm.trans hY; first | cases this | simp at this) fvw
                    replace faj := khv6 _ _ (fun q => by have z9 := faj; rw [q] at z9; have := z9.symm.trans hY; first | cases this | simp at this) faj
                    replace fkj := khv6 _ _ (fun q => by have z9 := fkj; rw [q] at z9; have := z9.symm.trans hY; first | cases this | simp at this) fkj
                    replace fvj := khv6 _ _ (fun q => by have z9 := fvj; rw [q] at z9; have := z9.symm.trans hY; first | cases this | simp at this) fvj
                    replace hY : hv6 y = some (.inr (8, [.ref ms, .ref mb, .ref (ra 28), .int gr, .int 0, .int ca, .int mv, .ref od, .ref pt, .int ct, .int fau, .ref fi, .ref re, .int cs, .ref rc, .ref rs, .ref so, .ref ot, .ref cn, .ref la, .int ce, .ref ro, .int rn])) := by rw [ehv6]; exact qs_self
                    clear ehv6
                    replace fr := fun b o hb n1 n2 => khv6 b o n1 (fr b o hb n1 n2)
                    refine lv_if_ne (tgt := 73) hx hb dX8_drop_68 (by decide) (fun c68 => ?_) (fun c68 => ?_)
                    · replace c68 : ¬ 1 = 0 := fun zq => c68 ((nI_eq (a := 1) (b := 0) (by omega) (by omega)).mpr zq)
                      have ek0 : (S j).1 = 0 := bHo_1 (hI j (by omega)).2.2 hoj
                      refine lv_aload_n hx hb dX8_drop_73 rfl (lv_at hl 0 rfl) ?_
                      refine q_get C hP hY rfl inX8 0 (by decide) g1167 rfl dX8_drop_74 ?_
                      refine lv_iload_n hx hb dX8_drop_77 rfl (lv_at hl 2 rfl) ?_
                      refine q_aaldR C hP hms rfl (by omega) (by omega) rfl dX8_drop_78 ?_
                      refine lv_aload_n hx hb dX8_drop_79 rfl (lv_at hl 0 rfl) ?_
                      refine q_get C hP hY rfl inX8 2 (by decide) g1169 rfl dX8_drop_80 ?_
                      refine q_callS (rest := []) C (c_X8_copy l D cy N0 hv6 (ra j) (rk j) (rv j) (S j).1 (nI (S j).2.2.1) (nI (S j).2.2.2) rwj nj Fj Gj (ra 28) (rk 28) (rv 28) kdw smw dpw rww nw fw gw ⟨hRj.1, hRj.2.1, hRj.2.2.1, faj, fkj, fvj⟩ ⟨hRw.1, hRw.2.1, hRw.2.2.1, faw, fkw, fvw⟩ apj (by omega)) kX8_copy g1257 g1258 hP hS (by first | decide | omega) hl.1 rfl (by decide) (by first | decide | omega) dX8_drop_83 (fun q ce E h' H1 locs1 hE => hE.elim) (fun v hh10 H locs hq hP hS => ?_)
                      obtain ⟨rfl, rfl⟩ := hq
                      obtain ⟨hv7, ehv7⟩ : ∃ z : qH, z = qRh cy hv6 (ra 28) (rk 28) (rv 28) ((S j).1) (nI nj) (nI (S j).2.2.1) (nI (S j).2.2.2) rwj (qCp Fj fw nj) (qCp Gj gw nj) := ⟨_, rfl⟩
                      rw [← ehv7] at hP
                      have r9 : qRw cy hv7 (ra 28) (rk 28) (rv 28) ((S j).1) (nI nj) (nI (S j).2.2.1) (nI (S j).2.2.2) rwj (qCp Fj fw nj) (qCp Gj gw nj) := by rw [ehv7]; exact qRw.new (cy := cy) (h := hv6) (kd := kdw) (n := (nI nw)) (sm := smw) (dp := dpw) (rw := rww) (f := fw) (g := gw) ⟨hRw.1, hRw.2.1, hRw.2.2.1, faw, fkw, fvw⟩
                      have khv7 : ∀ b o, qOf (ra 28) (rk 28) (rv 28) b → hv6 b = some o → hv7 b = some o := by rw [ehv7]; exact fun b o q hb => (qRh_o q.1 q.2.1 q.2.2).trans hb
                      replace hY := khv7 _ _ ⟨fun q => by rw [q] at hY; have := faw.symm.trans hY; first | cases this | simp at this, fun q => by rw [q] at hY; have := fkw.symm.trans hY; first | cases this | simp at this, fun q => by rw [q] at hY; have := fvw.symm.trans hY; first | cases this | simp at this⟩ hY
                      replace hms := khv7 _ _ ⟨fun q => by rw [q] at hms; have := faw.symm.trans hms; first | cases this | simp at this, fun q => by rw [q] at hms; have := fkw.symm.trans hms; first | cases this | simp at this, fun q => by rw [q] at hms; have := fvw.symm.trans hms; first | cases this | simp at this⟩ hms
                      replace hmb := khv7 _ _ ⟨fun q => by rw [q] at hmb; have := faw.symm.trans hmb; first | cases this | simp at this, fun q => by rw [q] at hmb; have := fkw.symm.trans hmb; first | cases this | simp at this, fun q => by rw [q] at hmb; have := fvw.symm.trans hmb; first | cases this | simp at this⟩ hmb
                      replace faj := khv7 _ _ apj.1 faj
                      replace fkj := khv7 _ _ apj.2.1 fkj
                      replace fvj := khv7 _ _ apj.2.2 fvj
                      replace fr := fun b o hb n1 n2 => khv7 b o n2 (fr b o hb n1 n2)
                      clear faw fkw fvw
                      have faw := r9.2.2.2.1
                      have fkw := r9.2.2.2.2.1
                      have fvw := r9.2.2.2.2.2
                      unfold qRb at faw
                      unfold qJr at fkw fvw
                      clear r9 ehv7
                      have lw : qLs ((S j).1) (qCp Fj fw nj) (qCp Gj gw nj) nj = (S j).2.1 := by rw [qLs_cp]; exact hLj.symm
                      refine lv_iload hx hb dX8_drop_86 (lv_at hl 4 rfl) ?_
                      refine lv_if_eq (tgt := 136) hx hb dX8_drop_88 (by decide) (fun c88 => ?_) (fun c88 => ?_)
                      · refine lv_aload_n hx hb dX8_drop_136 rfl (lv_at hl 0 rfl) ?_
                        refine q_get C hP hY rfl inX8 2 (by decide) g1169 rfl dX8_drop_137 ?_
                        refine lv_dup hx hb dX8_drop_140 rfl ?_
                        refine q_get C hP faw rfl inX7 3 (by decide) g1143 rfl dX8_drop_141 ?_
                        refine lv_iload_n hx hb dX8_drop_144 rfl (lv_at hl 3 rfl) ?_
                        refine q_isubN hx hb dX8_drop_145 (by omega) ?_
                        refine q_put C hP hS faw rfl inX7 tyX7 tyX7_ok nmX7 3 (by decide) g1143 rfl rfl rfl (Nat.le_of_ble_eq_true rfl) dX8_drop_146 (fun H locs hP hS => ?_)
                        replace hP : qP D N0 (qs hv7 (ra 28) (.inr (7, [.ref (rk 28), .ref (rv 28), .int (S j).1, .int (nI (nj - q)), .int (nI (S j).2.2.1), .int (nI (S j).2.2.2), .int rwj]))) H := hP
                        obtain ⟨hv8, ehv8⟩ : ∃ z : qH, z = qs hv7 (ra 28) (.inr (7, [.ref (rk 28), .ref (rv 28), .int (S j).1, .int (nI (nj - q)), .int (nI (S j).2.2.1), .int (nI (S j).2.2.2), .int rwj])) := ⟨_, rfl⟩
                        rw [← ehv8] at hP
                        have khv8 : ∀ b o, b ≠ (ra 28) → hv7 b = some o → hv8 b = some o := by rw [ehv8]; exact fun b o nb hb => (qs_ne nb).trans hb
                        replace hY := khv8 _ _ (fun q => by have z9 := hY; rw [q] at z9; have := z9.symm.trans faw; first | cases this | simp at this) hY
                        replace hms := khv8 _ _ (fun q => by have z9 := hms; rw [q] at z9; have := z9.symm.trans faw; first | cases this | simp at this) hms
                        replace hmb := khv8 _ _ (fun q => by have z9 := hmb; rw [q] at z9; have := z9.symm.trans faw; first | cases this | simp at this) hmb
                        replace fkw := khv8 _ _ (fun q => by have z9 := fkw; rw [q] at z9; have := z9.symm.trans faw; first | cases this | simp at this) fkw
                        replace fvw := khv8 _ _ (fun q => by have z9 := fvw; rw [q] at z9; have := z9.symm.trans faw; first | cases this | simp at this) fvw
                        replace faj := khv8 _ _ apj.1.1 faj
                        replace fkj := khv8 _ _ apj.2.1.1 fkj
                        replace fvj := khv8 _ _ apj.2.2.1 fvj
                        replace faw : hv8 (ra 28) = some (.inr (7, [.ref (rk 28), .ref (rv 28), .int (S j).1, .int (nI (nj - q)), .int (nI (S j).2.2.1), .int (nI (S j).2.2.2), .int rwj])) := by rw [ehv8]; exact qs_self
                        clear ehv8
                        replace fr := fun b o hb n1 n2 => khv8 b o n2.1 (fr b o hb n1 n2)
                        replace lw : qLs ((S j).1) (qCp Fj fw nj) (qCp Gj gw nj) (nj - q) = ((S j).2.1.take (nj - q)) := by rw [← lw]; exact qLs_take (by omega)
                        refine lv_aload_n hx hb dX8_drop_149 rfl (lv_at hl 0 rfl) ?_
                        refine lv_iload_n hx hb dX8_drop_150 rfl (lv_at hl 1 rfl) ?_
                        refine lv_iconst (v := nI 0) hx hb dX8_drop_151 (by decide) ?_
                        obtain ⟨ni, rwi, Fi, Gi, hRi, hni, hLi, hKi⟩ := hrs i (by omega)
                        have api := hRi.apart hRw (hmd.two (i := i) (j := 28) (by omega) (by omega) (by omega))
                        replace hRi := hRi.keep2 (fun b o hb ho => fr b o ho (hRi.ney hY0 hb) (hb.elim (fun q => q ▸ api.1) (fun hb => hb.elim (fun q => q ▸ api.2.1) (fun q => q ▸ api.2.2))))
                        have fai := hRi.2.2.2.1
                        have fki := hRi.2.2.2.2.1
                        have fvi := hRi.2.2.2.2.2
                        unfold qRb at fai
                        unfold qJr at fki fvi
                        refine q_callV (rest := []) C (c_X8_done l D cy N0 hv8 y ms mb od pt fi re rc rs so ot cn la ro gr 0 ca mv ct fau cs ce rn ra rk rv i (nI 0) (S j).1 (nI (S j).2.2.1) (nI (S j).2.2.2) rwj (nj - q) (qCp Fj fw nj) (qCp Gj gw nj) (S i).1 (nI (S i).2.2.1) (nI (S i).2.2.2) rwi ni Fi Gi hY hms hmd ⟨hRw.1, hRw.2.1, hRw.2.2.1, faw, fkw, fvw⟩ ⟨hRi.1, hRi.2.1, hRi.2.2.1, fai, fki, fvi⟩ (by omega) (by omega)) kX8_done g1293 g1295 rfl gp45 g4 hP hS hY (by first | decide | omega) hl.1 rfl (by decide) (by first | decide | omega) dX8_drop_152 (fun q ce E h' H1 locs1 hE => hE.elim) (fun v hh11 H locs hq hP hS => ?_)
                        obtain ⟨rfl, hY9, hw9, hi9, fr9⟩ := hq
                        replace fr := fun b o hb n1 n2 n3 => fr9 b o (fr b o hb n1 n2) n1 n2 n3
                        rw [show mv + nI 0 = mv from Int32.add_zero _] at hY9
                        have elj : (S j).2.1.length = nj := by rw [hLj, qLs_len]
                        have ex : xs_drop S (nI i) (nI j) (nI q) p3 = (0, qU S i ((S j).1, ((S j).2.1.take (nj - q)), (S j).2.2), nI (nj - q)) := by (unfold xs_drop; rw [if_neg (by simp [ebi, ebj, enq]), ecj, if_neg (by simp [hoj]), eci]; unfold xr_drop; rw [ecq, elj, if_neg (by omega), if_pos c88])
                        obtain ⟨m9, f9⟩ := hM.fin hY0 (i := i) (by omega) (s := ((S j).1, ((S j).2.1.take (nj - q)), (S j).2.2.1, (S j).2.2.2)) ⟨(nj - q), _, _, _, hi9, by omega, by rw [qLs_cp]; exact lw.symm, Or.inl rfl⟩ hw9 fr
                        exact q_iret C hP hS ⟨by first | (rw [ex]; done) | (rw [ex]; rfl), by rw [ex]; exact hY9, by first | exact m9 | (rw [ex]; exact m9), f9⟩ (by omega) dX8_drop_155
                      · refine lv_iconst (v := nI 0) hx hb dX8_drop_91 (by decide) ?_
                        refine lv_istore (lv' := [(5, .int (nI 0)), (0, .ref y), (1, .int (nI i)), (2, .int (nI j)), (3, .int (nI q)), (4, .int p3)]) hx hb dX8_drop_92 hl (by decide) rfl (fun ls hl => ?_)
                        refine (?_ : ∀ (t : Nat) (H : Heap) (locs : List Loc) (ls : Array Slot) (hv0 : qH) (ii : Nat), nj - ii < t → hv0 y = some (.inr (8, [.ref ms, .ref mb, .ref (ra 28), .int gr, .int 0, .int ca, .int mv, .ref od, .ref pt, .int ct, .int fau, .ref fi, .ref re, .int cs, .ref rc, .ref rs, .ref so, .ref ot, .ref cn, .ref la, .int ce, .ref ro, .int rn])) → hv0 ms = some (.inl (cy 5, 24, .inr (.inr (.inr (.inr (fun i => some (ra i))))))) → hv0 mb = some (.inl (cy 5, 4, .inr (.inr (.inr (.inr (fun i => some (ra (24 + i)))))))) → hv0 (ra 28) = some (.inr (7, [.ref (rk 28), .ref (rv 28), .int (S j).1, .int (nI nj), .int (nI (S j).2.2.1), .int (nI (S j).2.2.2), .int rwj])) → hv0 (rk 28) = some (.inl (cy 1, 1001, .inr (.inl (qDf (qCp Fj fw nj) q ii)))) → hv0 (rv 28) = some (.inl (cy 1, 1001, .inr (.inl (qCp Gj gw nj)))) → hv0 (ra j) = some (.inr (7, [.ref (rk j), .ref (rv j), .int (S j).1, .int (nI nj), .int (nI (S j).2.2.1), .int (nI (S j).2.2.2), .int rwj])) → hv0 (rk j) = some (.inl (cy 1, 1001, .inr (.inl Fj))) → hv0 (rv j) = some (.inl (cy 1, 1001, .inr (.inl Gj))) → (∀ b o, h b = some o → b ≠ y → qOf (ra 28) (rk 28) (rv 28) b → hv0 b = some o) → ii + q ≤ nj ∨ ii = 0 → lv_has ls 6 [(5, .int (nI ii)), (0, .ref y), (1, .int (nI i)), (2, .int (nI j)), (3, .int (nI q)), (4, .int p3)] → qP D N0 hv0 H → va_S (qA N0) s.heap H locs → W p l e _ s m _ below meth c H locs 0 0 _ (F0 m 94 ls [])) _ H locs ls hv7 0 (Nat.lt_succ_self _) hY hms hmb faw (by rw [qDf_0]; exact fkw) fvw faj fkj fvj fr (Or.inr rfl) (lv_sub hl [0, 1, 2, 3, 4, 5] rfl) hP hS
                        clear hl hP hS
                        intro t
                        induction t with
                        | zero => intro H locs ls hv0 ii ht; exact absurd ht (Nat.not_lt_zero _)
                        | succ t ihl =>
                          intro H locs ls hv0 ii ht hY hms hmb faw fkw fvw faj fkj fvj fr hii hl hP hS
                          refine lv_iload hx hb dX8_drop_94 (lv_at hl 0 rfl) ?_
                          refine lv_iload_n hx hb dX8_drop_96 rfl (lv_at hl 4 rfl) ?_
                          refine q_iaddN hx hb dX8_drop_97 ?_
                          refine lv_aload_n hx hb dX8_drop_98 rfl (lv_at hl 1 rfl) ?_
                          refine q_get C hP hY rfl inX8 2 (by decide) g1169 rfl dX8_drop_99 ?_
                          refine q_get C hP faw rfl inX7 3 (by decide) g1143 rfl dX8_drop_102 ?_
                          refine lv_icmp_ge (tgt := 136) hx hb dX8_drop_105 (by decide) (fun c105 => ?_) (fun c105 => ?_)
                          · replace c105 : nj ≤ (ii + q) := (nI_leI (a := nj) (b := (ii + q)) (by omega) (by omega)).mp c105
                            refine lv_aload_n hx hb dX8_drop_136 rfl (lv_at hl 1 rfl) ?_
                            refine q_get C hP hY rfl inX8 2 (by decide) g1169 rfl dX8_drop_137 ?_
                            refine lv_dup hx hb dX8_drop_140 rfl ?_
                            refine q_get C hP faw rfl inX7 3 (by decide) g1143 rfl dX8_drop_141 ?_
                            refine lv_iload_n hx hb dX8_drop_144 rfl (lv_at hl 4 rfl) ?_
                            refine q_isubN hx hb dX8_drop_145 (by omega) ?_
                            refine q_put C hP hS faw rfl inX7 tyX7 tyX7_ok nmX7 3 (by decide) g1143 rfl rfl rfl (Nat.le_of_ble_eq_true rfl) dX8_drop_146 (fun H locs hP hS => ?_)
                            replace hP : qP D N0 (qs hv0 (ra 28) (.inr (7, [.ref (rk 28), .ref (rv 28), .int (S j).1, .int (nI (nj - q)), .int (nI (S j).2.2.1), .int (nI (S j).2.2.2), .int rwj]))) H := hP
                            obtain ⟨hv9, ehv9⟩ : ∃ z : qH, z = qs hv0 (ra 28) (.inr (7, [.ref (rk 28), .ref (rv 28), .int (S j).1, .int (nI (nj - q)), .int (nI (S j).2.2.1), .int (nI (S j).2.2.2), .int rwj])) := ⟨_, rfl⟩
                            rw [← ehv9] at hP
                            have khv9 : ∀ b o, b ≠ (ra 28) → hv0 b = some o → hv9 b = some o := by rw [ehv9]; exact fun b o nb hb => (qs_ne nb).trans hb
                            replace hY := khv9 _ _ (fun q => by have z9 := hY; rw [q] at z9; have := z9.symm.trans faw; first | cases this | simp at this) hY
                            replace hms := khv9 _ _ (fun q => by have z9 := hms; rw [q] at z9; have := z9.symm.trans faw; first | cases this | simp at this) hms
                            replace hmb := khv9 _ _ (fun q => by have z9 := hmb; rw [q] at z9; have := z9.symm.trans faw; first | cases this | simp at this) hmb
                            replace fkw := khv9 _ _ (fun q => by have z9 := fkw; rw [q] at z9; have := z9.symm.trans faw; first | cases this | simp at this) fkw
                            replace fvw := khv9 _ _ (fun q => by have z9 := fvw; rw [q] at z9; have := z9.symm.trans faw; first | cases this | simp at this) fvw
                            replace faj := khv9 _ _ apj.1.1 faj
                            replace fkj := khv9 _ _ apj.2.1.1 fkj
                            replace fvj := khv9 _ _ apj.2.2.1 fvj
                            replace faw : hv9 (ra 28) = some (.inr (7, [.ref (rk 28), .ref (rv 28), .int (S j).1, .int (nI (nj - q)), .int (nI (S j).2.2.1), .int (nI (S j).2.2.2), .int rwj])) := by rw [ehv9]; exact qs_self
                            clear ehv9
                            replace fr := fun b o hb n1 n2 => khv9 b o n2.1 (fr b o hb n1 n2)
                            replace lw : qLs ((S j).1) (qDf (qCp Fj fw nj) q ii) (qCp Gj gw nj) (nj - q) = ((S j).2.1.drop q) := by rw [← lw, ek0]; exact qLs_drop (by omega) (by omega)
                            refine lv_aload_n hx hb dX8_drop_149 rfl (lv_at hl 1 rfl) ?_
                            refine lv_iload_n hx hb dX8_drop_150 rfl (lv_at hl 2 rfl) ?_
                            refine lv_iconst (v := nI 0) hx hb dX8_drop_151 (by decide) ?_
                            obtain ⟨ni, rwi, Fi, Gi, hRi, hni, hLi, hKi⟩ := hrs i (by omega)
                            have api := hRi.apart hRw (hmd.two (i := i) (j := 28) (by omega) (by omega) (by omega))
                            replace hRi := hRi.keep2 (fun b o hb ho => fr b o ho (hRi.ney hY0 hb) (hb.elim (fun q => q ▸ api.1) (fun hb => hb.elim (fun q => q ▸ api.2.1) (fun q => q ▸ api.2.2))))
                            have fai := hRi.2.2.2.1
                            have fki := hRi.2.2.2.2.1
                            have fvi := hRi.2.2.2.2.2
                            unfold qRb at fai
                            unfold qJr at fki fvi
                            refine q_callV (rest := []) C (c_X8_done l D cy N0 hv9 y ms mb od pt fi re rc rs so ot cn la ro gr 0 ca mv ct fau cs ce rn ra rk rv i (nI 0) (S j).1 (nI (S j).2.2.1) (nI (S j).2.2.2) rwj (nj - q) (qDf (qCp Fj fw nj) q ii) (qCp Gj gw nj) (S i).1 (nI (S i).2.2.1) (nI (S i).2.2.2) rwi ni Fi Gi hY hms hmd ⟨hRw.1, hRw.2.1, hRw.2.2.1, faw, fkw, fvw⟩ ⟨hRi.1, hRi.2.1, hRi.2.2.1, fai, fki, fvi⟩ (by omega) (by omega)) kX8_done g1293 g1295 rfl gp45 g4 hP hS hY (by first | decide | omega) hl.1 rfl (by decide) (by first | decide | omega) dX8_drop_152 (fun q ce E h' H1 locs1 hE => hE.elim) (fun v hh12 H locs hq hP hS => ?_)
                            obtain ⟨rfl, hY9, hw9, hi9, fr9⟩ := hq
                            replace fr := fun b o hb n1 n2 n3 => fr9 b o (fr b o hb n1 n2) n1 n2 n3
                            rw [show mv + nI 0 = mv from Int32.add_zero _] at hY9
                            have elj : (S j).2.1.length = nj := by rw [hLj, qLs_len]
                            have ex : xs_drop S (nI i) (nI j) (nI q) p3 = (0, qU S i ((S j).1, ((S j).2.1.drop q), (S j).2.2), nI (nj - q)) := by (unfold xs_drop; rw [if_neg (by simp [ebi, ebj, enq]), ecj, if_neg (by simp [hoj]), eci]; unfold xr_drop; rw [ecq, elj, if_neg (by omega), if_neg c88])
                            obtain ⟨m9, f9⟩ := hM.fin hY0 (i := i) (by omega) (s := ((S j).1, ((S j).2.1.drop q), (S j).2.2.1, (S j).2.2.2)) ⟨(nj - q), _, _, _, hi9, by omega, by rw [qLs_cp]; exact lw.symm, Or.inl rfl⟩ hw9 fr
                            exact q_iret C hP hS ⟨by first | (rw [ex]; done) | (rw [ex]; rfl), by rw [ex]; exact hY9, by first | exact m9 | (rw [ex]; exact m9), f9⟩ (by omega) dX8_drop_155
                          · replace c105 : ¬ nj ≤ (ii + q) := fun zq => c105 ((nI_leI (a := nj) (b := (ii + q)) (by omega) (by omega)).mpr zq)
                            refine lv_aload_n hx hb dX8_drop_108 rfl (lv_at hl 1 rfl) ?_
                            refine q_get C hP hY rfl inX8 2 (by decide) g1169 rfl dX8_drop_109 ?_
                            refine q_get C hP faw rfl inX7 0 (by decide) g1138 rfl dX8_drop_112 ?_
                            refine lv_iload hx hb dX8_drop_115 (lv_at hl 0 rfl) ?_
                            refine lv_aload_n hx hb dX8_drop_117 rfl (lv_at hl 1 rfl) ?_
                            refine q_get C hP hY rfl inX8 2 (by decide) g1169 rfl dX8_drop_118 ?_
                            refine q_get C hP faw rfl inX7 0 (by decide) g1138 rfl dX8_drop_121 ?_
                            refine lv_iload hx hb dX8_drop_124 (lv_at hl 0 rfl) ?_
                            refine lv_iload_n hx hb dX8_drop_126 rfl (lv_at hl 4 rfl) ?_
                            refine q_iaddN hx hb dX8_drop_127 ?_
                            refine q_laldN C hP fkw (by omega) (by omega) dX8_drop_128 ?_
                            refine q_lastN C hP hS fkw (by omega) (by omega) dX8_drop_129 (fun H locs hP hS => ?_)
                            obtain ⟨hv10, ehv10⟩ : ∃ z : qH, z = qs hv0 (rk 28) (.inl (cy 1, 1001, .inr (.inl (vp_updL (qDf (qCp Fj fw nj) q ii) ii ((qDf (qCp Fj fw nj) q ii) (ii + q)))))) := ⟨_, rfl⟩
                            rw [← ehv10] at hP
                            have khv10 : ∀ b o, b ≠ (rk 28) → hv0 b = some o → hv10 b = some o := by rw [ehv10]; exact fun b o nb hb => (qs_ne nb).trans hb
                            replace hY := khv10 _ _ (fun q => by have z9 := hY; rw [q] at z9; have := z9.symm.trans fkw; first | cases this | simp at this) hY
                            replace hms := khv10 _ _ (fun q => by have z9 := hms; rw [q] at z9; have := z9.symm.trans fkw; first | cases this | simp at this) hms
                            replace hmb := khv10 _ _ (fun q => by have z9 := hmb; rw [q] at z9; have := z9.symm.trans fkw; first | cases this | simp at this) hmb
                            replace faw := khv10 _ _ (fun q => by have z9 := faw; rw [q] at z9; have := z9.symm.trans fkw; first | cases this | simp at this) faw
                            replace fvw := khv10 _ _ hRw.1.symm fvw
                            replace faj := khv10 _ _ apj.1.2.1 faj
                            replace fkj := khv10 _ _ apj.2.1.2.1 fkj
                            replace fvj := khv10 _ _ apj.2.2.2.1 fvj
                            replace fkw : hv10 (rk 28) = some (.inl (cy 1, 1001, .inr (.inl (vp_updL (qDf (qCp Fj fw nj) q ii) ii ((qDf (qCp Fj fw nj) q ii) (ii + q)))))) := by rw [ehv10]; exact qs_self
                            clear ehv10
                            replace fr := fun b o hb n1 n2 => khv10 b o n2.2.1 (fr b o hb n1 n2)
                            refine lv_iinc (v := nI (ii + 1)) (lv' := [(5, .int (nI (ii + 1))), (0, .ref y), (1, .int (nI i)), (2, .int (nI j)), (3, .int (nI q)), (4, .int p3)]) hx hb dX8_drop_130 hl (k := 0) rfl (nI_1 ii) (by decide) rfl (fun ls hl => ?_)
                            refine lv_goto (tgt := 94) hx hb dX8_drop_133 (by decide) ?_
                            rw [qDf_step] at fkw
                            exact ihl H locs ls hv10 (ii + 1) (by omega) hY hms hmb faw fkw fvw faj fkj fvj fr (Or.inl (by omega)) (lv_sub hl [0, 1, 2, 3, 4, 5] rfl) hP hS
                    · replace c68 : 1 = 0 := (nI_eq (a := 1) (b := 0) (by omega) (by omega)).mp c68
                      exfalso; omega
      · have ebj : bSl p1 = false := bSl_f sl9
        refine lv_if_eq (tgt := 23) hx hb dX8_drop_12 (by decide) (fun c12 => ?_) (fun c12 => ?_)
        · replace c12 : 0 = 0 := (nI_eq (a := 0) (b := 0) (by omega) (by omega)).mp c12
          refine lv_iconst (v := nI 0) hx hb dX8_drop_23 (by decide) ?_
          refine lv_iconst (v := nI 1) hx hb dX8_drop_24 (by decide) ?_
          refine q_callV (rest := []) C (c_X8_good0 l D cy N0 h y ms mb (ra 28) od pt fi re rc rs so ot cn la ro gr cd ca mv ct fau cs ce rn (nI 1) hY) kX8_good g1249 g1251 rfl gp41 g4 hP hS hY (by first | decide | omega) hl.1 rfl (by decide) (by first | decide | omega) dX8_drop_25 (fun q ce E h' H1 locs1 hE => hE.elim) (fun v hh13 H locs hq hP hS => ?_)
          obtain ⟨rfl, rfl⟩ := hq
          replace hP : qP D N0 (qs h y (.inr (8, [.ref ms, .ref mb, .ref (ra 28), .int gr, .int (nI 1), .int ca, .int mv, .ref od, .ref pt, .int ct, .int fau, .ref fi, .ref re, .int cs, .ref rc, .ref rs, .ref so, .ref ot, .ref cn, .ref la, .int ce, .ref ro, .int rn]))) H := hP
          obtain ⟨hv11, ehv11⟩ : ∃ z : qH, z = qs h y (.inr (8, [.ref ms, .ref mb, .ref (ra 28), .int gr, .int (nI 1), .int ca, .int mv, .ref od, .ref pt, .int ct, .int fau, .ref fi, .ref re, .int cs, .ref rc, .ref rs, .ref so, .ref ot, .ref cn, .ref la, .int ce, .ref ro, .int rn])) := ⟨_, rfl⟩
          rw [← ehv11] at hP
          have khv11 : ∀ b o, b ≠ y → h b = some o → hv11 b = some o := by rw [ehv11]; exact fun b o nb hb => (qs_ne nb).trans hb
          replace hms := khv11 _ _ (fun q => by subst q; have := hms.symm.trans hY; first | cases this | simp at this) hms
          replace hmb := khv11 _ _ (fun q => by subst q; have := hmb.symm.trans hY; first | cases this | simp at this) hmb
          replace faw := khv11 _ _ (fun q => by have z9 := faw; rw [q] at z9; have := z9.symm.trans hY; first | cases this | simp at this) faw
          replace fkw := khv11 _ _ (fun q => by have z9 := fkw; rw [q] at z9; have := z9.symm.trans hY; first | cases this | simp at this) fkw
          replace fvw := khv11 _ _ (fun q => by have z9 := fvw; rw [q] at z9; have := z9.symm.trans hY; first | cases this | simp at this) fvw
          replace hY : hv11 y = some (.inr (8, [.ref ms, .ref mb, .ref (ra 28), .int gr, .int (nI 1), .int ca, .int mv, .ref od, .ref pt, .int ct, .int fau, .ref fi, .ref re, .int cs, .ref rc, .ref rs, .ref so, .ref ot, .ref cn, .ref la, .int ce, .ref ro, .int rn])) := by rw [ehv11]; exact qs_self
          clear ehv11
          replace fr := fun b o hb n1 n2 => khv11 b o n1 (fr b o hb n1 n2)
          refine lv_if_eq (tgt := 71) hx hb dX8_drop_28 (by decide) (fun c28 => ?_) (fun c28 => ?_)
          · replace c28 : 0 = 0 := (nI_eq (a := 0) (b := 0) (by omega) (by omega)).mp c28
            refine lv_iconst (v := nI 0) hx hb dX8_drop_71 (by decide) ?_
            have ex : xs_drop S (nI i) p1 p2 p3 = (1, S, 0) := by (unfold xs_drop; rw [if_pos (by simp [ebi, ebj])])
            obtain ⟨m9, f9⟩ := hM.fin0 hY0 (h' := hv11) ⟨hRw.1, hRw.2.1, hRw.2.2.1, faw, fkw, fvw⟩ fr
            exact q_iret C hP hS ⟨by first | (rw [ex]; done) | (rw [ex]; rfl), by rw [ex]; exact hY, by first | exact m9 | (rw [ex]; exact m9), f9⟩ (by omega) dX8_drop_72
          · replace c28 : ¬ 0 = 0 := fun zq => c28 ((nI_eq (a := 0) (b := 0) (by omega) (by omega)).mpr zq)
            exfalso; omega
        · replace c12 : ¬ 0 = 0 := fun zq => c12 ((nI_eq (a := 0) (b := 0) (by omega) (by omega)).mpr zq)
          exfalso; omega
  · have ebi : bSl p0 = false := bSl_f sl9
    refine lv_if_eq (tgt := 23) hx hb dX8_drop_5 (by decide) (fun c5 => ?_) (fun c5 => ?_)
    · replace c5 : 0 = 0 := (nI_eq (a := 0) (b := 0) (by omega) (by omega)).mp c5
      refine lv_iconst (v := nI 0) hx hb dX8_drop_23 (by decide) ?_
      refine lv_iconst (v := nI 1) hx hb dX8_drop_24 (by decide) ?_
      refine q_callV (rest := []) C (c_X8_good0 l D cy N0 h y ms mb (ra 28) od pt fi re rc rs so ot cn la ro gr cd ca mv ct fau cs ce rn (nI 1) hY) kX8_good g1249 g1251 rfl gp41 g4 hP hS hY (by first | decide | omega) hl.1 rfl (by decide) (by first | decide | omega) dX8_drop_25 (fun q ce E h' H1 locs1 hE => hE.elim) (fun v hh14 H locs hq hP hS => ?_)
      obtain ⟨rfl, rfl⟩ := hq
      replace hP : qP D N0 (qs h y (.inr (8, [.ref ms, .ref mb, .ref (ra 28), .int gr, .int (nI 1), .int ca, .int mv, .ref od, .ref pt, .int ct, .int fau, .ref fi, .ref re, .int cs, .ref rc, .ref rs, .ref so, .ref ot, .ref cn, .ref la, .int ce, .ref ro, .int rn]))) H := hP
      obtain ⟨hv12, ehv12⟩ : ∃ z : qH, z = qs h y (.inr (8, [.ref ms, .ref mb, .ref (ra 28), .int gr, .int (nI 1), .int ca, .int mv, .ref od, .ref pt, .int ct, .int fau, .ref fi, .ref re, .int cs, .ref rc, .ref rs, .ref so, .ref ot, .ref cn, .ref la, .int ce, .ref ro, .int rn])) := ⟨_, rfl⟩
      rw [← ehv12] at hP
      have khv12 : ∀ b o, b ≠ y → h b = some o → hv12 b = some o := by rw [ehv12]; exact fun b o nb hb => (qs_ne nb).trans hb
      replace hms := khv12 _ _ (fun q => by subst q; have := hms.symm.trans hY; first | cases this | simp at this) hms
      replace hmb := khv12 _ _ (fun q => by subst q; have := hmb.symm.trans hY; first | cases this | simp at this) hmb
      replace faw := khv12 _ _ (fun q => by have z9 := faw; rw [q] at z9; have := z9.symm.trans hY; first | cases this | simp at this) faw
      replace fkw := khv12 _ _ (fun q => by have z9 := fkw; rw [q] at z9; have := z9.symm.trans hY; first | cases this | simp at this) fkw
      replace fvw := khv12 _ _ (fun q => by have z9 := fvw; rw [q] at z9; have := z9.symm.trans hY; first | cases this | simp at this) fvw
      replace hY : hv12 y = some (.inr (8, [.ref ms, .ref mb, .ref (ra 28), .int gr, .int (nI 1), .int ca, .int mv, .ref od, .ref pt, .int ct, .int fau, .ref fi, .ref re, .int cs, .ref rc, .ref rs, .ref so, .ref ot, .ref cn, .ref la, .int ce, .ref ro, .int rn])) := by rw [ehv12]; exact qs_self
      clear ehv12
      replace fr := fun b o hb n1 n2 => khv12 b o n1 (fr b o hb n1 n2)
      refine lv_if_eq (tgt := 71) hx hb dX8_drop_28 (by decide) (fun c28 => ?_) (fun c28 => ?_)
      · replace c28 : 0 = 0 := (nI_eq (a := 0) (b := 0) (by omega) (by omega)).mp c28
        refine lv_iconst (v := nI 0) hx hb dX8_drop_71 (by decide) ?_
        have ex : xs_drop S p0 p1 p2 p3 = (1, S, 0) := by (unfold xs_drop; rw [if_pos (by simp [ebi])])
        obtain ⟨m9, f9⟩ := hM.fin0 hY0 (h' := hv12) ⟨hRw.1, hRw.2.1, hRw.2.2.1, faw, fkw, fvw⟩ fr
        exact q_iret C hP hS ⟨by first | (rw [ex]; done) | (rw [ex]; rfl), by rw [ex]; exact hY, by first | exact m9 | (rw [ex]; exact m9), f9⟩ (by omega) dX8_drop_72
      · replace c28 : ¬ 0 = 0 := fun zq => c28 ((nI_eq (a := 0) (b := 0) (by omega) (by omega)).mpr zq)
        exfalso; omega
    · replace c5 : ¬ 0 = 0 := fun zq => c5 ((nI_eq (a := 0) (b := 0) (by omega) (by omega)).mpr zq)
      exfalso; omega
