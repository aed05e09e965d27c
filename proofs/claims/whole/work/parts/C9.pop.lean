theorem qSy.rest {cy : Nat → ClassId} {h : qH} {y : Nat} {A : Nat → Prop} {o : qYf} {a : qWd} {k : qKd} {fi re rc rs so ot cn la : Nat} {cs ce : Int32} (s : qSy cy h y A o a k) (hy : h y = some (qYo o fi re rc rs so ot cn la cs ce)) : ∃ F, h re = some (.inl (cy 0, a.2.1, .inl F)) ∧ ∀ j, j < a.1 → F j = nI (a.2.2.2 j) := by
  obtain ⟨fi2, re2, rc2, rs2, so2, ot2, cn2, la2, F, Rt, Rc, Rs, So, Ot, Cn, La, hY, ⟨-, h2, -⟩, hg, hk, hz, hd, he, hA, hb⟩ := s
  have e := hY.symm.trans hy
  unfold qYo at e
  simp only [Option.some.injEq, Sum.inr.injEq, Prod.mk.injEq, List.cons.injEq, Value.ref.injEq, Value.int.injEq, true_and, and_true] at e
  obtain ⟨-, e2, -⟩ := e
  subst e2
  exact ⟨Rt, h2, fun j hj => (hg j hj).2⟩
def xr_pop (F : qWo → Nat → Nat × qWo) (S : Nat → qSlot) (W : qWo) (i j : Nat) : Int32 × Int64 × (Nat → qSlot) × qWo :=
  if (S j).1 = 6 then (if (S j).2.2.1 = 0 then (3, 0, S, W) else if ¬ oFq (F (oFa (oCd W.1 0) 0, W.2) (S j).2.2.1).2.1 = 0 then (oFq (F (oFa (oCd W.1 0) 0, W.2) (S j).2.2.1).2.1 + 3, 0, S, (F (oFa (oCd W.1 0) 0, W.2) (S j).2.2.1).2) else (0, W.2.1.2.2.1 (S j).2.2.1, qU S i ((S j).1, (S j).2.1, (F (oFa (oCd W.1 0) 0, W.2) (S j).2.2.1).1, (S j).2.2.2), (F (oFa (oCd W.1 0) 0, W.2) (S j).2.2.1).2)) else
  if (S j).2.1.length = 0 then (3, 0, S, W) else (0, ((S j).2.1.getD (if (S j).1 = 0 then (S j).2.1.length - 1 else 0) (0, 0)).1, qU S i ((S j).1, (S j).2.1.eraseIdx (if (S j).1 = 0 then (S j).2.1.length - 1 else 0), (S j).2.2), W)
def xs_pop (F : qWo → Nat → Nat × qWo) (S : Nat → qSlot) (W : qWo) (p0 p1 : Int32) : Int32 × Int64 × (Nat → qSlot) × qWo := if bSl p0 = false ∨ bSl p1 = false then (1, 0, S, W) else if bHo (S p1.toNatClampNeg).1 113 = false then (2, 0, S, W) else xr_pop F S W p0.toNatClampNeg p1.toNatClampNeg
theorem dX8_pop_44 : decode cX8_pop 44 = .ok (.aload_n 0, 1) := by decide +kernel
theorem dX8_pop_45 : decode cX8_pop 45 = .ok (.getfield 9, 3) := by decide +kernel
theorem dX8_pop_48 : decode cX8_pop 48 = .ok (.iload_n 2, 1) := by decide +kernel
theorem dX8_pop_49 : decode cX8_pop 49 = .ok (.aaload, 1) := by decide +kernel
theorem dX8_pop_50 : decode cX8_pop 50 = .ok (.astore_n 3, 1) := by decide +kernel
theorem dX8_pop_51 : decode cX8_pop 51 = .ok (.aload_n 0, 1) := by decide +kernel
theorem dX8_pop_52 : decode cX8_pop 52 = .ok (.aload_n 3, 1) := by decide +kernel
theorem dX8_pop_53 : decode cX8_pop 53 = .ok (.getfield 75, 3) := by decide +kernel
theorem dX8_pop_56 : decode cX8_pop 56 = .ok (.bipush 6, 2) := by decide +kernel
theorem dX8_pop_58 : decode cX8_pop 58 = .ok (.if_icmp .ne 18, 3) := by decide +kernel
theorem dX8_pop_61 : decode cX8_pop 61 = .ok (.aload_n 3, 1) := by decide +kernel
theorem dX8_pop_62 : decode cX8_pop 62 = .ok (.getfield 81, 3) := by decide +kernel
theorem dX8_pop_65 : decode cX8_pop 65 = .ok (.ifCond .le 7, 3) := by decide +kernel
theorem dX8_pop_68 : decode cX8_pop 68 = .ok (.iconst 1, 1) := by decide +kernel
theorem dX8_pop_69 : decode cX8_pop 69 = .ok (.goto 19, 3) := by decide +kernel
theorem dX8_pop_72 : decode cX8_pop 72 = .ok (.iconst 0, 1) := by decide +kernel
theorem dX8_pop_73 : decode cX8_pop 73 = .ok (.goto 15, 3) := by decide +kernel
theorem dX8_pop_76 : decode cX8_pop 76 = .ok (.aload_n 3, 1) := by decide +kernel
theorem dX8_pop_77 : decode cX8_pop 77 = .ok (.getfield 78, 3) := by decide +kernel
theorem dX8_pop_80 : decode cX8_pop 80 = .ok (.ifCond .le 7, 3) := by decide +kernel
theorem dX8_pop_83 : decode cX8_pop 83 = .ok (.iconst 1, 1) := by decide +kernel
theorem dX8_pop_84 : decode cX8_pop 84 = .ok (.goto 4, 3) := by decide +kernel
theorem dX8_pop_87 : decode cX8_pop 87 = .ok (.iconst 0, 1) := by decide +kernel
theorem dX8_pop_88 : decode cX8_pop 88 = .ok (.iconst 3, 1) := by decide +kernel
theorem dX8_pop_89 : decode cX8_pop 89 = .ok (.invokevirtual 100, 3) := by decide +kernel
theorem dX8_pop_92 : decode cX8_pop 92 = .ok (.ifCond .ne 5, 3) := by decide +kernel
theorem dX8_pop_95 : decode cX8_pop 95 = .ok (.lconst 0, 1) := by decide +kernel
theorem dX8_pop_96 : decode cX8_pop 96 = .ok (.lreturn, 1) := by decide +kernel
theorem dX8_pop_97 : decode cX8_pop 97 = .ok (.aload_n 3, 1) := by decide +kernel
theorem dX8_pop_98 : decode cX8_pop 98 = .ok (.aload_n 0, 1) := by decide +kernel
theorem dX8_pop_99 : decode cX8_pop 99 = .ok (.getfield 19, 3) := by decide +kernel
theorem dX8_pop_102 : decode cX8_pop 102 = .ok (.invokestatic 104, 3) := by decide +kernel
theorem dX8_pop_105 : decode cX8_pop 105 = .ok (.aload_n 3, 1) := by decide +kernel
theorem dX8_pop_106 : decode cX8_pop 106 = .ok (.getfield 75, 3) := by decide +kernel
theorem dX8_pop_109 : decode cX8_pop 109 = .ok (.bipush 6, 2) := by decide +kernel
theorem dX8_pop_111 : decode cX8_pop 111 = .ok (.if_icmp .ne 65, 3) := by decide +kernel
theorem dX8_pop_114 : decode cX8_pop 114 = .ok (.aload_n 0, 1) := by decide +kernel
theorem dX8_pop_115 : decode cX8_pop 115 = .ok (.getfield 32, 3) := by decide +kernel
theorem dX8_pop_118 : decode cX8_pop 118 = .ok (.aload_n 3, 1) := by decide +kernel
theorem dX8_pop_119 : decode cX8_pop 119 = .ok (.getfield 81, 3) := by decide +kernel
theorem dX8_pop_122 : decode cX8_pop 122 = .ok (.laload, 1) := by decide +kernel
theorem dX8_pop_123 : decode cX8_pop 123 = .ok (.lstore 4, 2) := by decide +kernel
theorem dX8_pop_125 : decode cX8_pop 125 = .ok (.aload_n 0, 1) := by decide +kernel
theorem dX8_pop_126 : decode cX8_pop 126 = .ok (.iconst 0, 1) := by decide +kernel
theorem dX8_pop_127 : decode cX8_pop 127 = .ok (.putfield 155, 3) := by decide +kernel
theorem dX8_pop_130 : decode cX8_pop 130 = .ok (.aload_n 0, 1) := by decide +kernel
theorem dX8_pop_131 : decode cX8_pop 131 = .ok (.aload_n 0, 1) := by decide +kernel
theorem dX8_pop_132 : decode cX8_pop 132 = .ok (.getfield 36, 3) := by decide +kernel
theorem dX8_pop_135 : decode cX8_pop 135 = .ok (.aload_n 3, 1) := by decide +kernel
theorem dX8_pop_136 : decode cX8_pop 136 = .ok (.getfield 81, 3) := by decide +kernel
theorem dX8_pop_139 : decode cX8_pop 139 = .ok (.iaload, 1) := by decide +kernel
theorem dX8_pop_140 : decode cX8_pop 140 = .ok (.invokevirtual 158, 3) := by decide +kernel
theorem dX8_pop_143 : decode cX8_pop 143 = .ok (.istore 6, 2) := by decide +kernel
theorem dX8_pop_145 : decode cX8_pop 145 = .ok (.aload_n 0, 1) := by decide +kernel
theorem dX8_pop_146 : decode cX8_pop 146 = .ok (.getfield 155, 3) := by decide +kernel
theorem dX8_pop_149 : decode cX8_pop 149 = .ok (.ifCond .eq 15, 3) := by decide +kernel
theorem dX8_pop_152 : decode cX8_pop 152 = .ok (.aload_n 0, 1) := by decide +kernel
theorem dX8_pop_153 : decode cX8_pop 153 = .ok (.aload_n 0, 1) := by decide +kernel
theorem dX8_pop_154 : decode cX8_pop 154 = .ok (.getfield 155, 3) := by decide +kernel
theorem dX8_pop_157 : decode cX8_pop 157 = .ok (.iconst 3, 1) := by decide +kernel
theorem dX8_pop_158 : decode cX8_pop 158 = .ok (.iadd, 1) := by decide +kernel
theorem dX8_pop_159 : decode cX8_pop 159 = .ok (.putfield 72, 3) := by decide +kernel
theorem dX8_pop_162 : decode cX8_pop 162 = .ok (.lconst 0, 1) := by decide +kernel
theorem dX8_pop_163 : decode cX8_pop 163 = .ok (.lreturn, 1) := by decide +kernel
theorem dX8_pop_164 : decode cX8_pop 164 = .ok (.aload_n 0, 1) := by decide +kernel
theorem dX8_pop_165 : decode cX8_pop 165 = .ok (.getfield 19, 3) := by decide +kernel
theorem dX8_pop_168 : decode cX8_pop 168 = .ok (.iload 6, 2) := by decide +kernel
theorem dX8_pop_170 : decode cX8_pop 170 = .ok (.putfield 81, 3) := by decide +kernel
theorem dX8_pop_173 : decode cX8_pop 173 = .ok (.goto 43, 3) := by decide +kernel
theorem dX8_pop_176 : decode cX8_pop 176 = .ok (.aload_n 3, 1) := by decide +kernel
theorem dX8_pop_177 : decode cX8_pop 177 = .ok (.getfield 75, 3) := by decide +kernel
theorem dX8_pop_180 : decode cX8_pop 180 = .ok (.ifCond .ne 12, 3) := by decide +kernel
theorem dX8_pop_183 : decode cX8_pop 183 = .ok (.aload_n 3, 1) := by decide +kernel
theorem dX8_pop_184 : decode cX8_pop 184 = .ok (.getfield 78, 3) := by decide +kernel
theorem dX8_pop_187 : decode cX8_pop 187 = .ok (.iconst 1, 1) := by decide +kernel
theorem dX8_pop_188 : decode cX8_pop 188 = .ok (.isub, 1) := by decide +kernel
theorem dX8_pop_189 : decode cX8_pop 189 = .ok (.goto 4, 3) := by decide +kernel
theorem dX8_pop_192 : decode cX8_pop 192 = .ok (.iconst 0, 1) := by decide +kernel
theorem dX8_pop_193 : decode cX8_pop 193 = .ok (.istore 6, 2) := by decide +kernel
theorem dX8_pop_195 : decode cX8_pop 195 = .ok (.aload_n 0, 1) := by decide +kernel
theorem dX8_pop_196 : decode cX8_pop 196 = .ok (.getfield 19, 3) := by decide +kernel
theorem dX8_pop_199 : decode cX8_pop 199 = .ok (.getfield 90, 3) := by decide +kernel
theorem dX8_pop_202 : decode cX8_pop 202 = .ok (.iload 6, 2) := by decide +kernel
theorem dX8_pop_204 : decode cX8_pop 204 = .ok (.laload, 1) := by decide +kernel
theorem dX8_pop_205 : decode cX8_pop 205 = .ok (.lstore 4, 2) := by decide +kernel
theorem dX8_pop_207 : decode cX8_pop 207 = .ok (.aload_n 0, 1) := by decide +kernel
theorem dX8_pop_208 : decode cX8_pop 208 = .ok (.getfield 19, 3) := by decide +kernel
theorem dX8_pop_211 : decode cX8_pop 211 = .ok (.iload 6, 2) := by decide +kernel
theorem dX8_pop_213 : decode cX8_pop 213 = .ok (.invokestatic 161, 3) := by decide +kernel
theorem dX8_pop_216 : decode cX8_pop 216 = .ok (.aload_n 0, 1) := by decide +kernel
theorem dX8_pop_217 : decode cX8_pop 217 = .ok (.iload_n 1, 1) := by decide +kernel
theorem dX8_pop_218 : decode cX8_pop 218 = .ok (.iconst 0, 1) := by decide +kernel
theorem dX8_pop_219 : decode cX8_pop 219 = .ok (.invokevirtual 135, 3) := by decide +kernel
theorem dX8_pop_222 : decode cX8_pop 222 = .ok (.pop, 1) := by decide +kernel
theorem dX8_pop_223 : decode cX8_pop 223 = .ok (.lload 4, 2) := by decide +kernel
theorem dX8_pop_225 : decode cX8_pop 225 = .ok (.lreturn, 1) := by decide +kernel
set_option maxRecDepth 100000 in
set_option maxHeartbeats 4000000 in
theorem w_pop (l : Launch) (D : va_G) (cy : Nat → ClassId) (N0 : Nat) (h : qH) (y ms mb mw od pt fi re rc rs so ot cn la ro : Nat) (gr cd ca mv ct fau cs ce rn : Int32) (ra rk rv : Nat → Nat) (S : Nat → qSlot) (pa : Nat → Nat) (A : Nat → Prop) (a : qWd) (k : qKd) (R : Nat → List Int64) (ad : Nat → Nat) (Rn : Nat) (Bd sl d dc : Nat) (dp : Nat → Nat) (F : qWo → Nat → Nat × qWo) (p0 p1 : Int32) (X : Int32 × Int64 × (Nat → qSlot) × qWo) (hY : h y = some (.inr (8, [.ref ms, .ref mb, .ref mw, .int gr, .int cd, .int ca, .int mv, .ref od, .ref pt, .int ct, .int fau, .ref fi, .ref re, .int cs, .ref rc, .ref rs, .ref so, .ref ot, .ref cn, .ref la, .int ce, .ref ro, .int rn]))) (hQ : qRF cy h y A ra rk rv pa (ms, mb, mw, od, pt, ro, gr, cd, ca, mv, ct, fau, rn) a k S Rn R ad) (hI : ∀ i, i < 28 → qOk (S i).1 (S i).2.1) (hV : qWv Bd sl Rn dp ((ms, mb, mw, od, pt, ro, gr, cd, ca, mv, ct, fau, rn), a, k)) (hB : Bd ≤ 4000) (hF : qFS l D cy N0 y Bd Rn R ad F d) (hG : qFg Bd Rn F d) (hdc : dc < d) (hSt : ∀ i, i < 24 → (S i).1 = 6 → (S i).2.2.1 < a.1 ∧ dp (S i).2.2.1 ≤ dc) (hX : xs_pop F S ((ms, mb, mw, od, pt, ro, gr, cd, ca, mv, ct, fau, rn), a, k) p0 p1 = X) : qC l D cy N0 yX8_pop cX8_pop 7 (some .long) (4 * d + 20) (200 * d + 700) (qP1 X.2.2.2.2.1 - qP1 a) (qP2 X.2.2.2.2.1 - qP2 a) [.ref y, .int p0, .int p1] h (fun v h' => v = some (.long X.2.1) ∧ ∃ A', qRF cy h' y A' ra rk rv pa (oCd X.2.2.2.1 X.1) X.2.2.2.2.1 X.2.2.2.2.2 X.2.2.1 Rn R ad ∧ qFR h h' y od ra rk rv pa A A') (fun E h' => False) := by
  refine q_ofW (by decide) (by exact Nat.le_of_ble_eq_true rfl) ?_
  intro p e s m below meth c ls C hP hl
  have hx := C.1
  have hb := C.2.1
  have hS : va_S (qA N0) s.heap s.heap [] := va_S.rf
  have hl : lv_has ls 7 [(0, .ref y), (1, .int p0), (2, .int p1)] := hl
  have hM : qMR cy h ms mb mw ra rk rv S := hQ.2.2.1
  have hY0 := hY
  obtain ⟨hms, hmb, hmw, hmd, hrs, kdw, smw, dpw, rww, nw, fw, gw, hRw⟩ := id hM
  subst hmw
  have fr : ∀ b o, h b = some o → b ≠ y → qOf (ra 28) (rk 28) (rv 28) b → h b = some o := fun b o hb _ _ => hb
  have faw := hRw.2.2.2.1
  have fkw := hRw.2.2.2.2.1
  have fvw := hRw.2.2.2.2.2
  unfold qRb at faw
  unfold qJr at fkw fvw
  refine lv_aload_n hx hb dX8_pop_0 rfl (lv_at hl 0 rfl) ?_
  refine lv_iload_n hx hb dX8_pop_1 rfl (lv_at hl 1 rfl) ?_
  refine q_callS (rest := [.ref y]) C (c_X8_isSlot l D cy N0 h p0) kX8_isSlot g1246 g1247 hP hS (by first | decide | omega) hl.1 rfl (by simp [q_catrf, q_cati, q_catl, q_cata, q_catn]) (by first | decide | omega) dX8_pop_2 (fun q ce E h' H1 locs1 hE => hE.elim) (fun v hh1 H locs hq hP hS => ?_)
  obtain ⟨rfl, ⟨rfl, sl9⟩ | ⟨rfl, sl9⟩⟩ := hq
  · obtain ⟨i, hi, rfl⟩ := sl9.of
    have ebi : bSl (nI i) = true := bSl_t sl9
    have eci : (nI i).toNatClampNeg = i := nI_clamp (by omega)
    refine lv_if_eq (tgt := 19) hx hb dX8_pop_5 (by decide) (fun c5 => ?_) (fun c5 => ?_)
    · replace c5 : 1 = 0 := (nI_eq (a := 1) (b := 0) (by omega) (by omega)).mp c5
      exfalso; omega
    · replace c5 : ¬ 1 = 0 := fun zq => c5 ((nI_eq (a := 1) (b := 0) (by omega) (by omega)).mpr zq)
      refine lv_iload_n hx hb dX8_pop_8 rfl (lv_at hl 2 rfl) ?_
      refine q_callS (rest := [.ref y]) C (c_X8_isSlot l D cy N0 h p1) kX8_isSlot g1246 g1247 hP hS (by first | decide | omega) hl.1 rfl (by simp [q_catrf, q_cati, q_catl, q_cata, q_catn]) (by first | decide | omega) dX8_pop_9 (fun q ce E h' H1 locs1 hE => hE.elim) (fun v hh2 H locs hq hP hS => ?_)
      obtain ⟨rfl, ⟨rfl, sl9⟩ | ⟨rfl, sl9⟩⟩ := hq
      · obtain ⟨j, hj, rfl⟩ := sl9.of
        have ebj : bSl (nI j) = true := bSl_t sl9
        have ecj : (nI j).toNatClampNeg = j := nI_clamp (by omega)
        refine lv_if_eq (tgt := 19) hx hb dX8_pop_12 (by decide) (fun c12 => ?_) (fun c12 => ?_)
        · replace c12 : 1 = 0 := (nI_eq (a := 1) (b := 0) (by omega) (by omega)).mp c12
          exfalso; omega
        · replace c12 : ¬ 1 = 0 := fun zq => c12 ((nI_eq (a := 1) (b := 0) (by omega) (by omega)).mpr zq)
          refine lv_iconst (v := nI 1) hx hb dX8_pop_15 (by decide) ?_
          refine lv_goto (tgt := 20) hx hb dX8_pop_16 (by decide) ?_
          refine lv_iconst (v := nI 1) hx hb dX8_pop_20 (by decide) ?_
          refine q_callV (rest := []) C (c_X8_good1 l D cy N0 h y ms mb (ra 28) od pt fi re rc rs so ot cn la ro gr cd ca mv ct fau cs ce rn (nI 1) hY) kX8_good g1249 g1251 rfl gp41 g4 hP hS hY (by first | decide | omega) hl.1 rfl (by decide) (by first | decide | omega) dX8_pop_21 (fun q ce E h' H1 locs1 hE => hE.elim) (fun v hh3 H locs hq hP hS => ?_)
          obtain ⟨rfl, rfl⟩ := hq
          replace hP : qP D N0 (qs h y (.inr (8, [.ref ms, .ref mb, .ref (ra 28), .int gr, .int 0, .int ca, .int mv, .ref od, .ref pt, .int ct, .int fau, .ref fi, .ref re, .int cs, .ref rc, .ref rs, .ref so, .ref ot, .ref cn, .ref la, .int ce, .ref ro, .int rn]))) H := hP
          obtain ⟨hv1, ehv1⟩ : ∃ z : qH, z = qs h y (.inr (8, [.ref ms, .ref mb, .ref (ra 28), .int gr, .int 0, .int ca, .int mv, .ref od, .ref pt, .int ct, .int fau, .ref fi, .ref re, .int cs, .ref rc, .ref rs, .ref so, .ref ot, .ref cn, .ref la, .int ce, .ref ro, .int rn])) := ⟨_, rfl⟩
          rw [← ehv1] at hP
          have khv1 : ∀ b o, b ≠ y → h b = some o → hv1 b = some o := by rw [ehv1]; exact fun b o nb hb => (qs_ne nb).trans hb
          replace hms := khv1 _ _ (fun q => by subst q; have := hms.symm.trans hY; first | cases this | simp at this) hms
          replace hmb := khv1 _ _ (fun q => by subst q; have := hmb.symm.trans hY; first | cases this | simp at this) hmb
          replace faw := khv1 _ _ (fun q => by have z9 := faw; rw [q] at z9; have := z9.symm.trans hY; first | cases this | simp at this) faw
          replace fkw := khv1 _ _ (fun q => by have z9 := fkw; rw [q] at z9; have := z9.symm.trans hY; first | cases this | simp at this) fkw
          replace fvw := khv1 _ _ (fun q => by have z9 := fvw; rw [q] at z9; have := z9.symm.trans hY; first | cases this | simp at this) fvw
          replace hY : hv1 y = some (.inr (8, [.ref ms, .ref mb, .ref (ra 28), .int gr, .int 0, .int ca, .int mv, .ref od, .ref pt, .int ct, .int fau, .ref fi, .ref re, .int cs, .ref rc, .ref rs, .ref so, .ref ot, .ref cn, .ref la, .int ce, .ref ro, .int rn])) := by rw [ehv1]; exact qs_self
          clear ehv1
          replace fr := fun b o hb n1 n2 => khv1 b o n1 (fr b o hb n1 n2)
          refine lv_if_eq (tgt := 42) hx hb dX8_pop_24 (by decide) (fun c24 => ?_) (fun c24 => ?_)
          · replace c24 : 1 = 0 := (nI_eq (a := 1) (b := 0) (by omega) (by omega)).mp c24
            exfalso; omega
          · replace c24 : ¬ 1 = 0 := fun zq => c24 ((nI_eq (a := 1) (b := 0) (by omega) (by omega)).mpr zq)
            refine lv_aload_n hx hb dX8_pop_27 rfl (lv_at hl 0 rfl) ?_
            refine lv_aload_n hx hb dX8_pop_28 rfl (lv_at hl 0 rfl) ?_
            refine lv_iload_n hx hb dX8_pop_29 rfl (lv_at hl 2 rfl) ?_
            refine lv_bipush (v := nI 113) hx hb dX8_pop_30 (by decide) ?_
            obtain ⟨nj, rwj, Fj, Gj, hRj, hnj, hLj, hKj⟩ := hrs j (by omega)
            have apj := hRj.apart hRw (hmd.two (i := j) (j := 28) (by omega) (by omega) (by omega))
            replace hRj := hRj.keep2 (fun b o hb ho => fr b o ho (hRj.ney hY0 hb) (hb.elim (fun q => q ▸ apj.1) (fun hb => hb.elim (fun q => q ▸ apj.2.1) (fun q => q ▸ apj.2.2))))
            have faj := hRj.2.2.2.1
            have fkj := hRj.2.2.2.2.1
            have fvj := hRj.2.2.2.2.2
            unfold qRb at faj
            unfold qJr at fkj fvj
            refine q_callV (rest := [.ref y]) C (c_X8_holds l D cy N0 hv1 y ms ra rk rv j 113 _ _ _ _ _ _ _ _ hY rfl hms ⟨hRj.1, hRj.2.1, hRj.2.2.1, faj, fkj, fvj⟩ (by omega)) kX8_holds g1264 g1266 rfl gp42 g4 hP hS hY (by first | decide | omega) hl.1 rfl (by simp [q_catrf, q_cati, q_catl, q_cata, q_catn]) (by first | decide | omega) dX8_pop_32 (fun q ce E h' H1 locs1 hE => hE.elim) (fun v hh4 H locs hq hP hS => ?_)
            obtain ⟨rfl, rfl⟩ := hq
            cases hoj : bHo (S j).1 113 with
            | false =>
              refine lv_iconst (v := nI 2) hx hb dX8_pop_35 (by decide) ?_
              refine q_callV (rest := []) C (c_X8_good0 l D cy N0 hv1 y ms mb (ra 28) od pt fi re rc rs so ot cn la ro gr 0 ca mv ct fau cs ce rn (nI 2) hY) kX8_good g1249 g1251 rfl gp41 g4 hP hS hY (by first | decide | omega) hl.1 rfl (by decide) (by first | decide | omega) dX8_pop_36 (fun q ce E h' H1 locs1 hE => hE.elim) (fun v hh5 H locs hq hP hS => ?_)
              obtain ⟨rfl, rfl⟩ := hq
              replace hP : qP D N0 (qs hv1 y (.inr (8, [.ref ms, .ref mb, .ref (ra 28), .int gr, .int (nI 2), .int ca, .int mv, .ref od, .ref pt, .int ct, .int fau, .ref fi, .ref re, .int cs, .ref rc, .ref rs, .ref so, .ref ot, .ref cn, .ref la, .int ce, .ref ro, .int rn]))) H := hP
              obtain ⟨hv2, ehv2⟩ : ∃ z : qH, z = qs hv1 y (.inr (8, [.ref ms, .ref mb, .ref (ra 28), .int gr, .int (nI 2), .int ca, .int mv, .ref od, .ref pt, .int ct, .int fau, .ref fi, .ref re, .int cs, .ref rc, .ref rs, .ref so, .ref ot, .ref cn, .ref la, .int ce, .ref ro, .int rn])) := ⟨_, rfl⟩
              rw [← ehv2] at hP
              have khv2 : ∀ b o, b ≠ y → hv1 b = some o → hv2 b = some o := by rw [ehv2]; exact fun b o nb hb => (qs_ne nb).trans hb
              replace hms := khv2 _ _ (fun q => by subst q; have := hms.symm.trans hY; first | cases this | simp at this) hms
              replace hmb := khv2 _ _ (fun q => by subst q; have := hmb.symm.trans hY; first | cases this | simp at this) hmb
              replace faw := khv2 _ _ (fun q => by have z9 := faw; rw [q] at z9; have := z9.symm.trans hY; first | cases this | simp at this) faw
              replace fkw := khv2 _ _ (fun q => by have z9 := fkw; rw [q] at z9; have := z9.symm.trans hY; first | cases this | simp at this) fkw
              replace fvw := khv2 _ _ (fun q => by have z9 := fvw; rw [q] at z9; have := z9.symm.trans hY; first | cases this | simp at this) fvw
              replace faj := khv2 _ _ (fun q => by have z9 := faj; rw [q] at z9; have := z9.symm.trans hY; first | cases this | simp at this) faj
              replace fkj := khv2 _ _ (fun q => by have z9 := fkj; rw [q] at z9; have := z9.symm.trans hY; first | cases this | simp at this) fkj
              replace fvj := khv2 _ _ (fun q => by have z9 := fvj; rw [q] at z9; have := z9.symm.trans hY; first | cases this | simp at this) fvj
              replace hY : hv2 y = some (.inr (8, [.ref ms, .ref mb, .ref (ra 28), .int gr, .int (nI 2), .int ca, .int mv, .ref od, .ref pt, .int ct, .int fau, .ref fi, .ref re, .int cs, .ref rc, .ref rs, .ref so, .ref ot, .ref cn, .ref la, .int ce, .ref ro, .int rn])) := by rw [ehv2]; exact qs_self
              clear ehv2
              replace fr := fun b o hb n1 n2 => khv2 b o n1 (fr b o hb n1 n2)
              refine lv_if_ne (tgt := 44) hx hb dX8_pop_39 (by decide) (fun c39 => ?_) (fun c39 => ?_)
              · replace c39 : ¬ 0 = 0 := fun zq => c39 ((nI_eq (a := 0) (b := 0) (by omega) (by omega)).mpr zq)
                exfalso; omega
              · replace c39 : 0 = 0 := (nI_eq (a := 0) (b := 0) (by omega) (by omega)).mp c39
                refine lv_lconst (v := 0) hx hb dX8_pop_42 (by decide) ?_
                have eX : X = (2, 0, S, (ms, mb, ra 28, od, pt, ro, gr, cd, ca, mv, ct, fau, rn), a, k) := by rw [← hX]; unfold xs_pop; rw [if_neg (by rw [ebi, ebj]; decide), ecj, if_pos hoj]
                obtain ⟨m8, f8⟩ := hM.fin0 hY0 (h' := hv2) ⟨hRw.1, hRw.2.1, hRw.2.2.1, faw, fkw, fvw⟩ fr
                obtain ⟨q8, r8⟩ := hQ.rowM (o' := oCd (ms, mb, ra 28, od, pt, ro, gr, cd, ca, mv, ct, fau, rn) 2) hY0 hY m8 f8 ⟨rfl, rfl, rfl, rfl, rfl, rfl⟩
                exact q_lret C hP hS ⟨by rw [eX], A, by rw [eX]; exact q8, r8⟩ (by omega) dX8_pop_43
            | true =>
              refine lv_iconst (v := nI 2) hx hb dX8_pop_35 (by decide) ?_
              refine q_callV (rest := []) C (c_X8_good1 l D cy N0 hv1 y ms mb (ra 28) od pt fi re rc rs so ot cn la ro gr 0 ca mv ct fau cs ce rn (nI 2) hY) kX8_good g1249 g1251 rfl gp41 g4 hP hS hY (by first | decide | omega) hl.1 rfl (by decide) (by first | decide | omega) dX8_pop_36 (fun q ce E h' H1 locs1 hE => hE.elim) (fun v hh6 H locs hq hP hS => ?_)
              obtain ⟨rfl, rfl⟩ := hq
              replace hP : qP D N0 (qs hv1 y (.inr (8, [.ref ms, .ref mb, .ref (ra 28), .int gr, .int 0, .int ca, .int mv, .ref od, .ref pt, .int ct, .int fau, .ref fi, .ref re, .int cs, .ref rc, .ref rs, .ref so, .ref ot, .ref cn, .ref la, .int ce, .ref ro, .int rn]))) H := hP
              obtain ⟨hv3, ehv3⟩ : ∃ z : qH, z = qs hv1 y (.inr (8, [.ref ms, .ref mb, .ref (ra 28), .int gr, .int 0, .int ca, .int mv, .ref od, .ref pt, .int ct, .int fau, .ref fi, .ref re, .int cs, .ref rc, .ref rs, .ref so, .ref ot, .ref cn, .ref la, .int ce, .ref ro, .int rn])) := ⟨_, rfl⟩
              rw [← ehv3] at hP
              have khv3 : ∀ b o, b ≠ y → hv1 b = some o → hv3 b = some o := by rw [ehv3]; exact fun b o nb hb => (qs_ne nb).trans hb
              replace hms := khv3 _ _ (fun q => by subst q; have := hms.symm.trans hY; first | cases this | simp at this) hms
              replace hmb := khv3 _ _ (fun q => by subst q; have := hmb.symm.trans hY; first | cases this | simp at this) hmb
              replace faw := khv3 _ _ (fun q => by have z9 := faw; rw [q] at z9; have := z9.symm.trans hY; first | cases this | simp at this) faw
              replace fkw := khv3 _ _ (fun q => by have z9 := fkw; rw [q] at z9; have := z9.symm.trans hY; first | cases this | simp at this) fkw
              replace fvw := khv3 _ _ (fun q => by have z9 := fvw; rw [q] at z9; have := z9.symm.trans hY; first | cases this | simp at this) fvw
              replace faj := khv3 _ _ (fun q => by have z9 := faj; rw [q] at z9; have := z9.symm.trans hY; first | cases this | simp at this) faj
              replace fkj := khv3 _ _ (fun q => by have z9 := fkj; rw [q] at z9; have := z9.symm.trans hY; first | cases this | simp at this) fkj
              replace fvj := khv3 _ _ (fun q => by have z9 := fvj; rw [q] at z9; have := z9.symm.trans hY; first | cases this | simp at this) fvj
              replace hY : hv3 y = some (.inr (8, [.ref ms, .ref mb, .ref (ra 28), .int gr, .int 0, .int ca, .int mv, .ref od, .ref pt, .int ct, .int fau, .ref fi, .ref re, .int cs, .ref rc, .ref rs, .ref so, .ref ot, .ref cn, .ref la, .int ce, .ref ro, .int rn])) := by rw [ehv3]; exact qs_self
              clear ehv3
              replace fr := fun b o hb n1 n2 => khv3 b o n1 (fr b o hb n1 n2)
              refine lv_if_ne (tgt := 44) hx hb dX8_pop_39 (by decide) (fun c39 => ?_) (fun c39 => ?_)
              · replace c39 : ¬ 1 = 0 := fun zq => c39 ((nI_eq (a := 1) (b := 0) (by omega) (by omega)).mpr zq)
                refine lv_aload_n hx hb dX8_pop_44 rfl (lv_at hl 0 rfl) ?_
                refine q_get C hP hY rfl inX8 0 (by decide) g1167 rfl dX8_pop_45 ?_
                refine lv_iload_n hx hb dX8_pop_48 rfl (lv_at hl 2 rfl) ?_
                refine q_aaldR C hP hms rfl (by omega) (by omega) rfl dX8_pop_49 ?_
                refine lv_astore_n (lv' := [(3, .ref (ra j)), (0, .ref y), (1, .int (nI i)), (2, .int (nI j))]) hx hb dX8_pop_50 rfl hl (by decide) rfl (fun ls hl => ?_)
                refine lv_aload_n hx hb dX8_pop_51 rfl (lv_at hl 1 rfl) ?_
                refine lv_aload_n hx hb dX8_pop_52 rfl (lv_at hl 0 rfl) ?_
                refine q_get C hP faj rfl inX7 2 (by decide) g1142 rfl dX8_pop_53 ?_
                refine lv_bipush (v := 6) hx hb dX8_pop_56 (by decide) ?_
                refine lv_icmp_ne (tgt := 76) hx hb dX8_pop_58 (by decide) (fun c58 => ?_) (fun c58 => ?_)
                · refine lv_aload_n hx hb dX8_pop_76 rfl (lv_at hl 0 rfl) ?_
                  refine q_get C hP faj rfl inX7 3 (by decide) g1143 rfl dX8_pop_77 ?_
                  refine lv_if_le (tgt := 87) hx hb dX8_pop_80 (by decide) (fun c80 => ?_) (fun c80 => ?_)
                  · replace c80 : nj ≤ 0 := (nI_leI (a := nj) (b := 0) (by omega) (by omega)).mp c80
                    refine lv_iconst (v := nI 0) hx hb dX8_pop_87 (by decide) ?_
                    refine lv_iconst (v := nI 3) hx hb dX8_pop_88 (by decide) ?_
                    refine q_callV (rest := []) C (c_X8_good0 l D cy N0 hv3 y ms mb (ra 28) od pt fi re rc rs so ot cn la ro gr 0 ca mv ct fau cs ce rn (nI 3) hY) kX8_good g1249 g1251 rfl gp41 g4 hP hS hY (by first | decide | omega) hl.1 rfl (by decide) (by first | decide | omega) dX8_pop_89 (fun q ce E h' H1 locs1 hE => hE.elim) (fun v hh7 H locs hq hP hS => ?_)
                    obtain ⟨rfl, rfl⟩ := hq
                    replace hP : qP D N0 (qs hv3 y (.inr (8, [.ref ms, .ref mb, .ref (ra 28), .int gr, .int (nI 3), .int ca, .int mv, .ref od, .ref pt, .int ct, .int fau, .ref fi, .ref re, .int cs, .ref rc, .ref rs, .ref so, .ref ot, .ref cn, .ref la, .int ce, .ref ro, .int rn]))) H := hP
                    obtain ⟨hv4, ehv4⟩ : ∃ z : qH, z = qs hv3 y (.inr (8, [.ref ms, .ref mb, .ref (ra 28), .int gr, .int (nI 3), .int ca, .int mv, .ref od, .ref pt, .int ct, .int fau, .ref fi, .ref re, .int cs, .ref rc, .ref rs, .ref so, .ref ot, .ref cn, .ref la, .int ce, .ref ro, .int rn])) := ⟨_, rfl⟩
                    rw [← ehv4] at hP
                    have khv4 : ∀ b o, b ≠ y → hv3 b = some o → hv4 b = some o := by rw [ehv4]; exact fun b o nb hb => (qs_ne nb).trans hb
                    replace hms := khv4 _ _ (fun q => by subst q; have := hms.symm.trans hY; first | cases this | simp at this) hms
                    replace hmb := khv4 _ _ (fun q => by subst q; have := hmb.symm.trans hY; first | cases this | simp at this) hmb
                    replace faw := khv4 _ _ (fun q => by have z9 := faw; rw [q] at z9; have := z9.symm.trans hY; first | cases this | simp at this) faw
                    replace fkw := khv4 _ _ (fun q => by have z9 := fkw; rw [q] at z9; have := z9.symm.trans hY; first | cases this | simp at this) fkw
                    replace fvw := khv4 _ _ (fun q => by have z9 := fvw; rw [q] at z9; have := z9.symm.trans hY; first | cases this | simp at this) fvw
                    replace faj := khv4 _ _ (fun q => by have z9 := faj; rw [q] at z9; have := z9.symm.trans hY; first | cases this | simp at this) faj
                    replace fkj := khv4 _ _ (fun q => by have z9 := fkj; rw [q] at z9; have := z9.symm.trans hY; first | cases this | simp at this) fkj
                    replace fvj := khv4 _ _ (fun q => by have z9 := fvj; rw [q] at z9; have := z9.symm.trans hY; first | cases this | simp at this) fvj
                    replace hY : hv4 y = some (.inr (8, [.ref ms, .ref mb, .ref (ra 28), .int gr, .int (nI 3), .int ca, .int mv, .ref od, .ref pt, .int ct, .int fau, .ref fi, .ref re, .int cs, .ref rc, .ref rs, .ref so, .ref ot, .ref cn, .ref la, .int ce, .ref ro, .int rn])) := by rw [ehv4]; exact qs_self
                    clear ehv4
                    replace fr := fun b o hb n1 n2 => khv4 b o n1 (fr b o hb n1 n2)
                    refine lv_if_ne (tgt := 97) hx hb dX8_pop_92 (by decide) (fun c92 => ?_) (fun c92 => ?_)
                    · replace c92 : ¬ 0 = 0 := fun zq => c92 ((nI_eq (a := 0) (b := 0) (by omega) (by omega)).mpr zq)
                      exfalso; omega
                    · replace c92 : 0 = 0 := (nI_eq (a := 0) (b := 0) (by omega) (by omega)).mp c92
                      refine lv_lconst (v := 0) hx hb dX8_pop_95 (by decide) ?_
                      have eX : X = (3, 0, S, (ms, mb, ra 28, od, pt, ro, gr, cd, ca, mv, ct, fau, rn), a, k) := by rw [← hX]; unfold xs_pop; rw [if_neg (by rw [ebi, ebj]; decide), ecj, if_neg (by rw [hoj]; decide), eci]; unfold xr_pop; rw [if_neg c58, if_pos (by rw [hLj, qLs_len]; omega)]
                      obtain ⟨m8, f8⟩ := hM.fin0 hY0 (h' := hv4) ⟨hRw.1, hRw.2.1, hRw.2.2.1, faw, fkw, fvw⟩ fr
                      obtain ⟨q8, r8⟩ := hQ.rowM (o' := oCd (ms, mb, ra 28, od, pt, ro, gr, cd, ca, mv, ct, fau, rn) 3) hY0 hY m8 f8 ⟨rfl, rfl, rfl, rfl, rfl, rfl⟩
                      exact q_lret C hP hS ⟨by rw [eX], A, by rw [eX]; exact q8, r8⟩ (by omega) dX8_pop_96
                  · replace c80 : ¬ nj ≤ 0 := fun zq => c80 ((nI_leI (a := nj) (b := 0) (by omega) (by omega)).mpr zq)
                    refine lv_iconst (v := nI 1) hx hb dX8_pop_83 (by decide) ?_
                    refine lv_goto (tgt := 88) hx hb dX8_pop_84 (by decide) ?_
                    refine lv_iconst (v := nI 3) hx hb dX8_pop_88 (by decide) ?_
                    refine q_callV (rest := []) C (c_X8_good1 l D cy N0 hv3 y ms mb (ra 28) od pt fi re rc rs so ot cn la ro gr 0 ca mv ct fau cs ce rn (nI 3) hY) kX8_good g1249 g1251 rfl gp41 g4 hP hS hY (by first | decide | omega) hl.1 rfl (by decide) (by first | decide | omega) dX8_pop_89 (fun q ce E h' H1 locs1 hE => hE.elim) (fun v hh8 H locs hq hP hS => ?_)
                    obtain ⟨rfl, rfl⟩ := hq
                    replace hP : qP D N0 (qs hv3 y (.inr (8, [.ref ms, .ref mb, .ref (ra 28), .int gr, .int 0, .int ca, .int mv, .ref od, .ref pt, .int ct, .int fau, .ref fi, .ref re, .int cs, .ref rc, .ref rs, .ref so, .ref ot, .ref cn, .ref la, .int ce, .ref ro, .int rn]))) H := hP
                    obtain ⟨hv5, ehv5⟩ : ∃ z : qH, z = qs hv3 y (.inr (8, [.ref ms, .ref mb, .ref (ra 28), .int gr, .int 0, .int ca, .int mv, .ref od, .ref pt, .int ct, .int fau, .ref fi, .ref re, .int cs, .ref rc, .ref rs, .ref so, .ref ot, .ref cn, .ref la, .int ce, .ref ro, .int rn])) := ⟨_, rfl⟩
                    rw [← ehv5] at hP
                    have khv5 : ∀ b o, b ≠ y → hv3 b = some o → hv5 b = some o := by rw [ehv5]; exact fun b o nb hb => (qs_ne nb).trans hb
                    replace hms := khv5 _ _ (fun q => by subst q; have := hms.symm.trans hY; first | cases this | simp at this) hms
                    replace hmb := khv5 _ _ (fun q => by subst q; have := hmb.symm.trans hY; first | cases this | simp at this) hmb
                    replace faw := khv5 _ _ (fun q => by have z9 := faw; rw [q] at z9; have := z9.symm.trans hY; first | cases this | simp at this) faw
                    replace fkw := khv5 _ _ (fun q => by have z9 := fkw; rw [q] at z9; have := z9.symm.trans hY; first | cases this | simp at this) fkw
                    replace fvw := khv5 _ _ (fun q => by have z9 := fvw; rw [q] at z9; have := z9.symm.trans hY; first | cases this | simp at this) fvw
                    replace faj := khv5 _ _ (fun q => by have z9 := faj; rw [q] at z9; have := z9.symm.trans hY; first | cases this | simp at this) faj
                    replace fkj := khv5 _ _ (fun q => by have z9 := fkj; rw [q] at z9; have := z9.symm.trans hY; first | cases this | simp at this) fkj
                    replace fvj := khv5 _ _ (fun q => by have z9 := fvj; rw [q] at z9; have := z9.symm.trans hY; first | cases this | simp at this) fvj
                    replace hY : hv5 y = some (.inr (8, [.ref ms, .ref mb, .ref (ra 28), .int gr, .int 0, .int ca, .int mv, .ref od, .ref pt, .int ct, .int fau, .ref fi, .ref re, .int cs, .ref rc, .ref rs, .ref so, .ref ot, .ref cn, .ref la, .int ce, .ref ro, .int rn])) := by rw [ehv5]; exact qs_self
                    clear ehv5
                    replace fr := fun b o hb n1 n2 => khv5 b o n1 (fr b o hb n1 n2)
                    refine lv_if_ne (tgt := 97) hx hb dX8_pop_92 (by decide) (fun c92 => ?_) (fun c92 => ?_)
                    · replace c92 : ¬ 1 = 0 := fun zq => c92 ((nI_eq (a := 1) (b := 0) (by omega) (by omega)).mpr zq)
                      refine lv_aload_n hx hb dX8_pop_97 rfl (lv_at hl 0 rfl) ?_
                      refine lv_aload_n hx hb dX8_pop_98 rfl (lv_at hl 1 rfl) ?_
                      refine q_get C hP hY rfl inX8 2 (by decide) g1169 rfl dX8_pop_99 ?_
                      refine q_callS (rest := []) C (c_X8_copy l D cy N0 hv5 (ra j) (rk j) (rv j) (S j).1 (nI (S j).2.2.1) (nI (S j).2.2.2) rwj nj Fj Gj (ra 28) (rk 28) (rv 28) kdw smw dpw rww nw fw gw ⟨hRj.1, hRj.2.1, hRj.2.2.1, faj, fkj, fvj⟩ ⟨hRw.1, hRw.2.1, hRw.2.2.1, faw, fkw, fvw⟩ apj (by omega)) kX8_copy g1257 g1258 hP hS (by first | decide | omega) hl.1 rfl (by decide) (by first | decide | omega) dX8_pop_102 (fun q ce E h' H1 locs1 hE => hE.elim) (fun v hh9 H locs hq hP hS => ?_)
                      obtain ⟨rfl, rfl⟩ := hq
                      obtain ⟨hv6, ehv6⟩ : ∃ z : qH, z = qRh cy hv5 (ra 28) (rk 28) (rv 28) ((S j).1) (nI nj) (nI (S j).2.2.1) (nI (S j).2.2.2) rwj (qCp Fj fw nj) (qCp Gj gw nj) := ⟨_, rfl⟩
                      rw [← ehv6] at hP
                      have r9 : qRw cy hv6 (ra 28) (rk 28) (rv 28) ((S j).1) (nI nj) (nI (S j).2.2.1) (nI (S j).2.2.2) rwj (qCp Fj fw nj) (qCp Gj gw nj) := by rw [ehv6]; exact qRw.new (cy := cy) (h := hv5) (kd := kdw) (n := (nI nw)) (sm := smw) (dp := dpw) (rw := rww) (f := fw) (g := gw) ⟨hRw.1, hRw.2.1, hRw.2.2.1, faw, fkw, fvw⟩
                      have khv6 : ∀ b o, qOf (ra 28) (rk 28) (rv 28) b → hv5 b = some o → hv6 b = some o := by rw [ehv6]; exact fun b o q hb => (qRh_o q.1 q.2.1 q.2.2).trans hb
                      replace hY := khv6 _ _ ⟨fun q => by rw [q] at hY; have := faw.symm.trans hY; first | cases this | simp at this, fun q => by rw [q] at hY; have := fkw.symm.trans hY; first | cases this | simp at this, fun q => by rw [q] at hY; have := fvw.symm.trans hY; first | cases this | simp at this⟩ hY
                      replace hms := khv6 _ _ ⟨fun q => by rw [q] at hms; have := faw.symm.trans hms; first | cases this | simp at this, fun q => by rw [q] at hms; have := fkw.symm.trans hms; first | cases this | simp at this, fun q => by rw [q] at hms; have := fvw.symm.trans hms; first | cases this | simp at this⟩ hms
                      replace hmb := khv6 _ _ ⟨fun q => by rw [q] at hmb; have := faw.symm.trans hmb; first | cases this | simp at this, fun q => by rw [q] at hmb; have := fkw.symm.trans hmb; first | cases this | simp at this, fun q => by rw [q] at hmb; have := fvw.symm.trans hmb; first | cases this | simp at this⟩ hmb
                      replace faj := khv6 _ _ apj.1 faj
                      replace fkj := khv6 _ _ apj.2.1 fkj
                      replace fvj := khv6 _ _ apj.2.2 fvj
                      replace fr := fun b o hb n1 n2 => khv6 b o n2 (fr b o hb n1 n2)
                      clear faw fkw fvw
                      have faw := r9.2.2.2.1
                      have fkw := r9.2.2.2.2.1
                      have fvw := r9.2.2.2.2.2
                      unfold qRb at faw
                      unfold qJr at fkw fvw
                      clear r9 ehv6
                      have lw : qLs ((S j).1) (qCp Fj fw nj) (qCp Gj gw nj) nj = (S j).2.1 := by rw [qLs_cp]; exact hLj.symm
                      refine lv_aload_n hx hb dX8_pop_105 rfl (lv_at hl 0 rfl) ?_
                      refine q_get C hP faj rfl inX7 2 (by decide) g1142 rfl dX8_pop_106 ?_
                      refine lv_bipush (v := 6) hx hb dX8_pop_109 (by decide) ?_
                      refine lv_icmp_ne (tgt := 176) hx hb dX8_pop_111 (by decide) (fun _ => ?_) (fun c => absurd c c58)
                      have hlen : (S j).2.1.length = nj := by rw [hLj, qLs_len]
                      refine lv_aload_n hx hb dX8_pop_176 rfl (lv_at hl 0 rfl) ?_
                      refine q_get C hP faj rfl inX7 2 (by decide) g1142 rfl dX8_pop_177 ?_
                      refine lv_if_ne (tgt := 192) hx hb dX8_pop_180 (by decide) (fun c180 => ?_) (fun c180 => ?_)
                      · refine lv_iconst (v := nI 0) hx hb dX8_pop_192 (by decide) ?_
                        refine lv_istore (lv' := [(6, .int (nI 0)), (3, .ref (ra j)), (0, .ref y), (1, .int (nI i)), (2, .int (nI j))]) hx hb dX8_pop_193 hl (by decide) rfl (fun ls hl => ?_)
                        refine lv_aload_n hx hb dX8_pop_195 rfl (lv_at hl 2 rfl) ?_
                        refine q_get C hP hY rfl inX8 2 (by decide) g1169 rfl dX8_pop_196 ?_
                        refine q_get C hP faw rfl inX7 0 (by decide) g1138 rfl dX8_pop_199 ?_
                        refine lv_iload hx hb dX8_pop_202 (lv_at hl 0 rfl) ?_
                        refine q_laldN C hP fkw (by omega) (by omega) dX8_pop_204 ?_
                        refine lv_lstore (lv' := [(4, .long ((qCp Fj fw nj) 0)), (6, .int (nI 0)), (3, .ref (ra j)), (0, .ref y), (1, .int (nI i)), (2, .int (nI j))]) hx hb dX8_pop_205 hl (by decide) rfl (fun ls hl => ?_)
                        refine lv_aload_n hx hb dX8_pop_207 rfl (lv_at hl 3 rfl) ?_
                        refine q_get C hP hY rfl inX8 2 (by decide) g1169 rfl dX8_pop_208 ?_
                        refine lv_iload hx hb dX8_pop_211 (lv_at hl 1 rfl) ?_
                        refine q_callS (rest := []) C (c_X8_remove l D cy N0 hv6 (ra 28) (rk 28) (rv 28) ((S j).1) (nI (S j).2.2.1) (nI (S j).2.2.2) rwj nj (qCp Fj fw nj) (qCp Gj gw nj) 0 ⟨hRw.1, hRw.2.1, hRw.2.2.1, faw, fkw, fvw⟩ (by omega) (by omega)) kX8_remove g1386 g1387 hP hS (by first | decide | omega) hl.1 rfl (by decide) (by first | decide | omega) dX8_pop_213 (fun q ce E h' H1 locs1 hE => hE.elim) (fun v hh10 H locs hq hP hS => ?_)
                        obtain ⟨rfl, rfl⟩ := hq
                        obtain ⟨hv7, ehv7⟩ : ∃ z : qH, z = qRh cy hv6 (ra 28) (rk 28) (rv 28) ((S j).1) (nI (nj - 1)) (nI (S j).2.2.1) (nI (S j).2.2.2) rwj (qSd (qCp Fj fw nj) 0 (nj - 1)) (qSd (qCp Gj gw nj) 0 (nj - 1)) := ⟨_, rfl⟩
                        rw [← ehv7] at hP
                        have r9 : qRw cy hv7 (ra 28) (rk 28) (rv 28) ((S j).1) (nI (nj - 1)) (nI (S j).2.2.1) (nI (S j).2.2.2) rwj (qSd (qCp Fj fw nj) 0 (nj - 1)) (qSd (qCp Gj gw nj) 0 (nj - 1)) := by rw [ehv7]; exact qRw.new (cy := cy) (h := hv6) (kd := (S j).1) (n := (nI nj)) (sm := (nI (S j).2.2.1)) (dp := (nI (S j).2.2.2)) (rw := rwj) (f := (qCp Fj fw nj)) (g := (qCp Gj gw nj)) ⟨hRw.1, hRw.2.1, hRw.2.2.1, faw, fkw, fvw⟩
                        have khv7 : ∀ b o, qOf (ra 28) (rk 28) (rv 28) b → hv6 b = some o → hv7 b = some o := by rw [ehv7]; exact fun b o q hb => (qRh_o q.1 q.2.1 q.2.2).trans hb
                        replace hY := khv7 _ _ ⟨fun q => by rw [q] at hY; have := faw.symm.trans hY; first | cases this | simp at this, fun q => by rw [q] at hY; have := fkw.symm.trans hY; first | cases this | simp at this, fun q => by rw [q] at hY; have := fvw.symm.trans hY; first | cases this | simp at this⟩ hY
                        replace hms := khv7 _ _ ⟨fun q => by rw [q] at hms; have := faw.symm.trans hms; first | cases this | simp at this, fun q => by rw [q] at hms; have := fkw.symm.trans hms; first | cases this | simp at this, fun q => by rw [q] at hms; have := fvw.symm.trans hms; first | cases this | simp at this⟩ hms
                        replace hmb := khv7 _ _ ⟨fun q => by rw [q] at hmb; have := faw.symm.trans hmb; first | cases this | simp at this, fun q => by rw [q] at hmb; have := fkw.symm.trans hmb; first | cases this | simp at this, fun q => by rw [q] at hmb; have := fvw.symm.trans hmb; first | cases this | simp at this⟩ hmb
                        replace faj := khv7 _ _ apj.1 faj
                        replace fkj := khv7 _ _ apj.2.1 fkj
                        replace fvj := khv7 _ _ apj.2.2 fvj
                        replace fr := fun b o hb n1 n2 => khv7 b o n2 (fr b o hb n1 n2)
                        clear faw fkw fvw
                        have faw := r9.2.2.2.1
                        have fkw := r9.2.2.2.2.1
                        have fvw := r9.2.2.2.2.2
                        unfold qRb at faw
                        unfold qJr at fkw fvw
                        clear r9 ehv7
                        replace lw : qLs ((S j).1) (qSd (qCp Fj fw nj) 0 (nj - 1)) (qSd (qCp Gj gw nj) 0 (nj - 1)) (nj - 1) = ((S j).2.1).eraseIdx 0 := by rw [qLs_rem (by omega), lw]
                        refine lv_aload_n hx hb dX8_pop_216 rfl (lv_at hl 3 rfl) ?_
                        refine lv_iload_n hx hb dX8_pop_217 rfl (lv_at hl 4 rfl) ?_
                        refine lv_iconst (v := nI 0) hx hb dX8_pop_218 (by decide) ?_
                        obtain ⟨ni, rwi, Fi, Gi, hRi, hni, hLi, hKi⟩ := hrs i (by omega)
                        have api := hRi.apart hRw (hmd.two (i := i) (j := 28) (by omega) (by omega) (by omega))
                        replace hRi := hRi.keep2 (fun b o hb ho => fr b o ho (hRi.ney hY0 hb) (hb.elim (fun q => q ▸ api.1) (fun hb => hb.elim (fun q => q ▸ api.2.1) (fun q => q ▸ api.2.2))))
                        have fai := hRi.2.2.2.1
                        have fki := hRi.2.2.2.2.1
                        have fvi := hRi.2.2.2.2.2
                        unfold qRb at fai
                        unfold qJr at fki fvi
                        refine q_callV (rest := []) C (c_X8_done l D cy N0 hv7 y ms mb od pt fi re rc rs so ot cn la ro gr 0 ca mv ct fau cs ce rn ra rk rv i (nI 0) (S j).1 (nI (S j).2.2.1) (nI (S j).2.2.2) rwj (nj - 1) (qSd (qCp Fj fw nj) 0 (nj - 1)) (qSd (qCp Gj gw nj) 0 (nj - 1)) (S i).1 (nI (S i).2.2.1) (nI (S i).2.2.2) rwi ni Fi Gi hY hms hmd ⟨hRw.1, hRw.2.1, hRw.2.2.1, faw, fkw, fvw⟩ ⟨hRi.1, hRi.2.1, hRi.2.2.1, fai, fki, fvi⟩ (by omega) (by omega)) kX8_done g1293 g1295 rfl gp45 g4 hP hS hY (by first | decide | omega) hl.1 rfl (by decide) (by first | decide | omega) dX8_pop_219 (fun q ce E h' H1 locs1 hE => hE.elim) (fun v hh11 H locs hq hP hS => ?_)
                        obtain ⟨rfl, hY9, hw9, hi9, fr9⟩ := hq
                        replace fr := fun b o hb n1 n2 n3 => fr9 b o (fr b o hb n1 n2) n1 n2 n3
                        rw [show mv + nI 0 = mv from Int32.add_zero _] at hY9
                        refine lv_pop hx hb dX8_pop_222 rfl ?_
                        refine lv_lload hx hb dX8_pop_223 (lv_at hl 0 rfl) ?_
                        obtain ⟨m9, f9⟩ := hM.fin hY0 (i := i) (by omega) (s := ((S j).1, (((S j).2.1).eraseIdx 0), (S j).2.2.1, (S j).2.2.2)) ⟨(nj - 1), _, _, _, hi9, by omega, by rw [qLs_cp]; exact lw.symm, Or.inl rfl⟩ hw9 fr
                        have eX : X = (0, Fj 0, qU S i ((S j).1, (S j).2.1.eraseIdx 0, (S j).2.2), (ms, mb, ra 28, od, pt, ro, gr, cd, ca, mv, ct, fau, rn), a, k) := by rw [← hX]; unfold xs_pop; rw [if_neg (by rw [ebi, ebj]; decide), ecj, if_neg (by rw [hoj]; decide), eci]; unfold xr_pop; rw [if_neg c58, if_neg (by omega), if_neg c180, List.getD_eq_getElem?_getD, hLj, qLs_get2 (by omega)]; rfl
                        obtain ⟨q9, r9⟩ := hQ.rowM (o' := (oCd (ms, mb, ra 28, od, pt, ro, gr, cd, ca, mv, ct, fau, rn) 0)) hY0 hY9 m9 f9 ⟨rfl, rfl, rfl, rfl, rfl, rfl⟩
                        exact q_lret C hP hS ⟨by rw [eX]; first | rfl | exact congrArg (fun z => some (Value.long z)) (if_pos (by omega)), A, by rw [eX]; exact q9, r9⟩ (by omega) dX8_pop_225
                      · refine lv_aload_n hx hb dX8_pop_183 rfl (lv_at hl 0 rfl) ?_
                        refine q_get C hP faj rfl inX7 3 (by decide) g1143 rfl dX8_pop_184 ?_
                        refine lv_iconst (v := nI 1) hx hb dX8_pop_187 (by decide) ?_
                        refine q_isubN hx hb dX8_pop_188 (by omega) ?_
                        refine lv_goto (tgt := 193) hx hb dX8_pop_189 (by decide) ?_
                        refine lv_istore (lv' := [(6, .int (nI (nj - 1))), (3, .ref (ra j)), (0, .ref y), (1, .int (nI i)), (2, .int (nI j))]) hx hb dX8_pop_193 hl (by decide) rfl (fun ls hl => ?_)
                        refine lv_aload_n hx hb dX8_pop_195 rfl (lv_at hl 2 rfl) ?_
                        refine q_get C hP hY rfl inX8 2 (by decide) g1169 rfl dX8_pop_196 ?_
                        refine q_get C hP faw rfl inX7 0 (by decide) g1138 rfl dX8_pop_199 ?_
                        refine lv_iload hx hb dX8_pop_202 (lv_at hl 0 rfl) ?_
                        refine q_laldN C hP fkw (by omega) (by omega) dX8_pop_204 ?_
                        refine lv_lstore (lv' := [(4, .long ((qCp Fj fw nj) (nj - 1))), (6, .int (nI (nj - 1))), (3, .ref (ra j)), (0, .ref y), (1, .int (nI i)), (2, .int (nI j))]) hx hb dX8_pop_205 hl (by decide) rfl (fun ls hl => ?_)
                        refine lv_aload_n hx hb dX8_pop_207 rfl (lv_at hl 3 rfl) ?_
                        refine q_get C hP hY rfl inX8 2 (by decide) g1169 rfl dX8_pop_208 ?_
                        refine lv_iload hx hb dX8_pop_211 (lv_at hl 1 rfl) ?_
                        refine q_callS (rest := []) C (c_X8_remove l D cy N0 hv6 (ra 28) (rk 28) (rv 28) ((S j).1) (nI (S j).2.2.1) (nI (S j).2.2.2) rwj nj (qCp Fj fw nj) (qCp Gj gw nj) (nj - 1) ⟨hRw.1, hRw.2.1, hRw.2.2.1, faw, fkw, fvw⟩ (by omega) (by omega)) kX8_remove g1386 g1387 hP hS (by first | decide | omega) hl.1 rfl (by decide) (by first | decide | omega) dX8_pop_213 (fun q ce E h' H1 locs1 hE => hE.elim) (fun v hh12 H locs hq hP hS => ?_)
                        obtain ⟨rfl, rfl⟩ := hq
                        obtain ⟨hv8, ehv8⟩ : ∃ z : qH, z = qRh cy hv6 (ra 28) (rk 28) (rv 28) ((S j).1) (nI (nj - 1)) (nI (S j).2.2.1) (nI (S j).2.2.2) rwj (qSd (qCp Fj fw nj) (nj - 1) (nj - 1)) (qSd (qCp Gj gw nj) (nj - 1) (nj - 1)) := ⟨_, rfl⟩
                        rw [← ehv8] at hP
                        have r9 : qRw cy hv8 (ra 28) (rk 28) (rv 28) ((S j).1) (nI (nj - 1)) (nI (S j).2.2.1) (nI (S j).2.2.2) rwj (qSd (qCp Fj fw nj) (nj - 1) (nj - 1)) (qSd (qCp Gj gw nj) (nj - 1) (nj - 1)) := by rw [ehv8]; exact qRw.new (cy := cy) (h := hv6) (kd := (S j).1) (n := (nI nj)) (sm := (nI (S j).2.2.1)) (dp := (nI (S j).2.2.2)) (rw := rwj) (f := (qCp Fj fw nj)) (g := (qCp Gj gw nj)) ⟨hRw.1, hRw.2.1, hRw.2.2.1, faw, fkw, fvw⟩
                        have khv8 : ∀ b o, qOf (ra 28) (rk 28) (rv 28) b → hv6 b = some o → hv8 b = some o := by rw [ehv8]; exact fun b o q hb => (qRh_o q.1 q.2.1 q.2.2).trans hb
                        replace hY := khv8 _ _ ⟨fun q => by rw [q] at hY; have := faw.symm.trans hY; first | cases this | simp at this, fun q => by rw [q] at hY; have := fkw.symm.trans hY; first | cases this | simp at this, fun q => by rw [q] at hY; have := fvw.symm.trans hY; first | cases this | simp at this⟩ hY
                        replace hms := khv8 _ _ ⟨fun q => by rw [q] at hms; have := faw.symm.trans hms; first | cases this | simp at this, fun q => by rw [q] at hms; have := fkw.symm.trans hms; first | cases this | simp at this, fun q => by rw [q] at hms; have := fvw.symm.trans hms; first | cases this | simp at this⟩ hms
                        replace hmb := khv8 _ _ ⟨fun q => by rw [q] at hmb; have := faw.symm.trans hmb; first | cases this | simp at this, fun q => by rw [q] at hmb; have := fkw.symm.trans hmb; first | cases this | simp at this, fun q => by rw [q] at hmb; have := fvw.symm.trans hmb; first | cases this | simp at this⟩ hmb
                        replace faj := khv8 _ _ apj.1 faj
                        replace fkj := khv8 _ _ apj.2.1 fkj
                        replace fvj := khv8 _ _ apj.2.2 fvj
                        replace fr := fun b o hb n1 n2 => khv8 b o n2 (fr b o hb n1 n2)
                        clear faw fkw fvw
                        have faw := r9.2.2.2.1
                        have fkw := r9.2.2.2.2.1
                        have fvw := r9.2.2.2.2.2
                        unfold qRb at faw
                        unfold qJr at fkw fvw
                        clear r9 ehv8
                        replace lw : qLs ((S j).1) (qSd (qCp Fj fw nj) (nj - 1) (nj - 1)) (qSd (qCp Gj gw nj) (nj - 1) (nj - 1)) (nj - 1) = ((S j).2.1).eraseIdx (nj - 1) := by rw [qLs_rem (by omega), lw]
                        refine lv_aload_n hx hb dX8_pop_216 rfl (lv_at hl 3 rfl) ?_
                        refine lv_iload_n hx hb dX8_pop_217 rfl (lv_at hl 4 rfl) ?_
                        refine lv_iconst (v := nI 0) hx hb dX8_pop_218 (by decide) ?_
                        obtain ⟨ni, rwi, Fi, Gi, hRi, hni, hLi, hKi⟩ := hrs i (by omega)
                        have api := hRi.apart hRw (hmd.two (i := i) (j := 28) (by omega) (by omega) (by omega))
                        replace hRi := hRi.keep2 (fun b o hb ho => fr b o ho (hRi.ney hY0 hb) (hb.elim (fun q => q ▸ api.1) (fun hb => hb.elim (fun q => q ▸ api.2.1) (fun q => q ▸ api.2.2))))
                        have fai := hRi.2.2.2.1
                        have fki := hRi.2.2.2.2.1
                        have fvi := hRi.2.2.2.2.2
                        unfold qRb at fai
                        unfold qJr at fki fvi
                        refine q_callV (rest := []) C (c_X8_done l D cy N0 hv8 y ms mb od pt fi re rc rs so ot cn la ro gr 0 ca mv ct fau cs ce rn ra rk rv i (nI 0) (S j).1 (nI (S j).2.2.1) (nI (S j).2.2.2) rwj (nj - 1) (qSd (qCp Fj fw nj) (nj - 1) (nj - 1)) (qSd (qCp Gj gw nj) (nj - 1) (nj - 1)) (S i).1 (nI (S i).2.2.1) (nI (S i).2.2.2) rwi ni Fi Gi hY hms hmd ⟨hRw.1, hRw.2.1, hRw.2.2.1, faw, fkw, fvw⟩ ⟨hRi.1, hRi.2.1, hRi.2.2.1, fai, fki, fvi⟩ (by omega) (by omega)) kX8_done g1293 g1295 rfl gp45 g4 hP hS hY (by first | decide | omega) hl.1 rfl (by decide) (by first | decide | omega) dX8_pop_219 (fun q ce E h' H1 locs1 hE => hE.elim) (fun v hh13 H locs hq hP hS => ?_)
                        obtain ⟨rfl, hY9, hw9, hi9, fr9⟩ := hq
                        replace fr := fun b o hb n1 n2 n3 => fr9 b o (fr b o hb n1 n2) n1 n2 n3
                        rw [show mv + nI 0 = mv from Int32.add_zero _] at hY9
                        refine lv_pop hx hb dX8_pop_222 rfl ?_
                        refine lv_lload hx hb dX8_pop_223 (lv_at hl 0 rfl) ?_
                        obtain ⟨m9, f9⟩ := hM.fin hY0 (i := i) (by omega) (s := ((S j).1, (((S j).2.1).eraseIdx (nj - 1)), (S j).2.2.1, (S j).2.2.2)) ⟨(nj - 1), _, _, _, hi9, by omega, by rw [qLs_cp]; exact lw.symm, Or.inl rfl⟩ hw9 fr
                        have eX : X = (0, Fj (nj - 1), qU S i ((S j).1, (S j).2.1.eraseIdx (nj - 1), (S j).2.2), (ms, mb, ra 28, od, pt, ro, gr, cd, ca, mv, ct, fau, rn), a, k) := by rw [← hX]; unfold xs_pop; rw [if_neg (by rw [ebi, ebj]; decide), ecj, if_neg (by rw [hoj]; decide), eci]; unfold xr_pop; rw [if_neg c58, if_neg (by omega), if_pos c180, hlen, List.getD_eq_getElem?_getD, hLj, qLs_get2 (by omega)]; rfl
                        obtain ⟨q9, r9⟩ := hQ.rowM (o' := (oCd (ms, mb, ra 28, od, pt, ro, gr, cd, ca, mv, ct, fau, rn) 0)) hY0 hY9 m9 f9 ⟨rfl, rfl, rfl, rfl, rfl, rfl⟩
                        exact q_lret C hP hS ⟨by rw [eX]; first | rfl | exact congrArg (fun z => some (Value.long z)) (if_pos (by omega)), A, by rw [eX]; exact q9, r9⟩ (by omega) dX8_pop_225
                    · replace c92 : 1 = 0 := (nI_eq (a := 1) (b := 0) (by omega) (by omega)).mp c92
                      exfalso; omega
                · have hs8 := hSt j (by omega) c58
                  have hLn := (hV.L hB).2
                  have hL8 := (hV.L hB).1
                  have hpp : 1 ≤ a.1 ∧ a.1 ≤ a.2.1 := hV.p
                  refine lv_aload_n hx hb dX8_pop_61 rfl (lv_at hl 0 rfl) ?_
                  refine q_get C hP faj rfl inX7 4 (by decide) g1144 rfl dX8_pop_62 ?_
                  refine lv_if_le (tgt := 72) hx hb dX8_pop_65 (by decide) (fun c65 => ?_) (fun c65 => ?_)
                  · replace c65 : ((S j).2.2.1) ≤ 0 := (nI_leI (a := (S j).2.2.1) (b := 0) (by omega) (by omega)).mp c65
                    refine lv_iconst (v := nI 0) hx hb dX8_pop_72 (by decide) ?_
                    refine lv_goto (tgt := 88) hx hb dX8_pop_73 (by decide) ?_
                    refine lv_iconst (v := nI 3) hx hb dX8_pop_88 (by decide) ?_
                    refine q_callV (rest := []) C (c_X8_good0 l D cy N0 hv3 y ms mb (ra 28) od pt fi re rc rs so ot cn la ro gr 0 ca mv ct fau cs ce rn (nI 3) hY) kX8_good g1249 g1251 rfl gp41 g4 hP hS hY (by first | decide | omega) hl.1 rfl (by decide) (by first | decide | omega) dX8_pop_89 (fun q ce E h' H1 locs1 hE => hE.elim) (fun v hh14 H locs hq hP hS => ?_)
                    obtain ⟨rfl, rfl⟩ := hq
                    replace hP : qP D N0 (qs hv3 y (.inr (8, [.ref ms, .ref mb, .ref (ra 28), .int gr, .int (nI 3), .int ca, .int mv, .ref od, .ref pt, .int ct, .int fau, .ref fi, .ref re, .int cs, .ref rc, .ref rs, .ref so, .ref ot, .ref cn, .ref la, .int ce, .ref ro, .int rn]))) H := hP
                    obtain ⟨hv9, ehv9⟩ : ∃ z : qH, z = qs hv3 y (.inr (8, [.ref ms, .ref mb, .ref (ra 28), .int gr, .int (nI 3), .int ca, .int mv, .ref od, .ref pt, .int ct, .int fau, .ref fi, .ref re, .int cs, .ref rc, .ref rs, .ref so, .ref ot, .ref cn, .ref la, .int ce, .ref ro, .int rn])) := ⟨_, rfl⟩
                    rw [← ehv9] at hP
                    have khv9 : ∀ b o, b ≠ y → hv3 b = some o → hv9 b = some o := by rw [ehv9]; exact fun b o nb hb => (qs_ne nb).trans hb
                    replace hms := khv9 _ _ (fun q => by subst q; have := hms.symm.trans hY; first | cases this | simp at this) hms
                    replace hmb := khv9 _ _ (fun q => by subst q; have := hmb.symm.trans hY; first | cases this | simp at this) hmb
                    replace faw := khv9 _ _ (fun q => by have z9 := faw; rw [q] at z9; have := z9.symm.trans hY; first | cases this | simp at this) faw
                    replace fkw := khv9 _ _ (fun q => by have z9 := fkw; rw [q] at z9; have := z9.symm.trans hY; first | cases this | simp at this) fkw
                    replace fvw := khv9 _ _ (fun q => by have z9 := fvw; rw [q] at z9; have := z9.symm.trans hY; first | cases this | simp at this) fvw
                    replace faj := khv9 _ _ (fun q => by have z9 := faj; rw [q] at z9; have := z9.symm.trans hY; first | cases this | simp at this) faj
                    replace fkj := khv9 _ _ (fun q => by have z9 := fkj; rw [q] at z9; have := z9.symm.trans hY; first | cases this | simp at this) fkj
                    replace fvj := khv9 _ _ (fun q => by have z9 := fvj; rw [q] at z9; have := z9.symm.trans hY; first | cases this | simp at this) fvj
                    replace hY : hv9 y = some (.inr (8, [.ref ms, .ref mb, .ref (ra 28), .int gr, .int (nI 3), .int ca, .int mv, .ref od, .ref pt, .int ct, .int fau, .ref fi, .ref re, .int cs, .ref rc, .ref rs, .ref so, .ref ot, .ref cn, .ref la, .int ce, .ref ro, .int rn])) := by rw [ehv9]; exact qs_self
                    clear ehv9
                    replace fr := fun b o hb n1 n2 => khv9 b o n1 (fr b o hb n1 n2)
                    refine lv_if_ne (tgt := 97) hx hb dX8_pop_92 (by decide) (fun c92 => ?_) (fun c92 => ?_)
                    · replace c92 : ¬ 0 = 0 := fun zq => c92 ((nI_eq (a := 0) (b := 0) (by omega) (by omega)).mpr zq)
                      exfalso; omega
                    · replace c92 : 0 = 0 := (nI_eq (a := 0) (b := 0) (by omega) (by omega)).mp c92
                      refine lv_lconst (v := 0) hx hb dX8_pop_95 (by decide) ?_
                      have eX : X = (3, 0, S, (ms, mb, ra 28, od, pt, ro, gr, cd, ca, mv, ct, fau, rn), a, k) := by rw [← hX]; unfold xs_pop; rw [if_neg (by rw [ebi, ebj]; decide), ecj, if_neg (by rw [hoj]; decide), eci]; unfold xr_pop; rw [if_pos c58, if_pos (by omega)]
                      obtain ⟨m8, f8⟩ := hM.fin0 hY0 (h' := hv9) ⟨hRw.1, hRw.2.1, hRw.2.2.1, faw, fkw, fvw⟩ fr
                      obtain ⟨q8, r8⟩ := hQ.rowM (o' := oCd (ms, mb, ra 28, od, pt, ro, gr, cd, ca, mv, ct, fau, rn) 3) hY0 hY m8 f8 ⟨rfl, rfl, rfl, rfl, rfl, rfl⟩
                      exact q_lret C hP hS ⟨by rw [eX], A, by rw [eX]; exact q8, r8⟩ (by omega) dX8_pop_96
                  · replace c65 : ¬ ((S j).2.2.1) ≤ 0 := fun zq => c65 ((nI_leI (a := (S j).2.2.1) (b := 0) (by omega) (by omega)).mpr zq)
                    refine lv_iconst (v := nI 1) hx hb dX8_pop_68 (by decide) ?_
                    refine lv_goto (tgt := 88) hx hb dX8_pop_69 (by decide) ?_
                    refine lv_iconst (v := nI 3) hx hb dX8_pop_88 (by decide) ?_
                    refine q_callV (rest := []) C (c_X8_good1 l D cy N0 hv3 y ms mb (ra 28) od pt fi re rc rs so ot cn la ro gr 0 ca mv ct fau cs ce rn (nI 3) hY) kX8_good g1249 g1251 rfl gp41 g4 hP hS hY (by first | decide | omega) hl.1 rfl (by decide) (by first | decide | omega) dX8_pop_89 (fun q ce E h' H1 locs1 hE => hE.elim) (fun v hh15 H locs hq hP hS => ?_)
                    obtain ⟨rfl, rfl⟩ := hq
                    replace hP : qP D N0 (qs hv3 y (.inr (8, [.ref ms, .ref mb, .ref (ra 28), .int gr, .int 0, .int ca, .int mv, .ref od, .ref pt, .int ct, .int fau, .ref fi, .ref re, .int cs, .ref rc, .ref rs, .ref so, .ref ot, .ref cn, .ref la, .int ce, .ref ro, .int rn]))) H := hP
                    obtain ⟨hv10, ehv10⟩ : ∃ z : qH, z = qs hv3 y (.inr (8, [.ref ms, .ref mb, .ref (ra 28), .int gr, .int 0, .int ca, .int mv, .ref od, .ref pt, .int ct, .int fau, .ref fi, .ref re, .int cs, .ref rc, .ref rs, .ref so, .ref ot, .ref cn, .ref la, .int ce, .ref ro, .int rn])) := ⟨_, rfl⟩
                    rw [← ehv10] at hP
                    have khv10 : ∀ b o, b ≠ y → hv3 b = some o → hv10 b = some o := by rw [ehv10]; exact fun b o nb hb => (qs_ne nb).trans hb
                    replace hms := khv10 _ _ (fun q => by subst q; have := hms.symm.trans hY; first | cases this | simp at this) hms
                    replace hmb := khv10 _ _ (fun q => by subst q; have := hmb.symm.trans hY; first | cases this | simp at this) hmb
                    replace faw := khv10 _ _ (fun q => by have z9 := faw; rw [q] at z9; have := z9.symm.trans hY; first | cases this | simp at this) faw
                    replace fkw := khv10 _ _ (fun q => by have z9 := fkw; rw [q] at z9; have := z9.symm.trans hY; first | cases this | simp at this) fkw
                    replace fvw := khv10 _ _ (fun q => by have z9 := fvw; rw [q] at z9; have := z9.symm.trans hY; first | cases this | simp at this) fvw
                    replace faj := khv10 _ _ (fun q => by have z9 := faj; rw [q] at z9; have := z9.symm.trans hY; first | cases this | simp at this) faj
                    replace fkj := khv10 _ _ (fun q => by have z9 := fkj; rw [q] at z9; have := z9.symm.trans hY; first | cases this | simp at this) fkj
                    replace fvj := khv10 _ _ (fun q => by have z9 := fvj; rw [q] at z9; have := z9.symm.trans hY; first | cases this | simp at this) fvj
                    replace hY : hv10 y = some (.inr (8, [.ref ms, .ref mb, .ref (ra 28), .int gr, .int 0, .int ca, .int mv, .ref od, .ref pt, .int ct, .int fau, .ref fi, .ref re, .int cs, .ref rc, .ref rs, .ref so, .ref ot, .ref cn, .ref la, .int ce, .ref ro, .int rn])) := by rw [ehv10]; exact qs_self
                    clear ehv10
                    replace fr := fun b o hb n1 n2 => khv10 b o n1 (fr b o hb n1 n2)
                    refine lv_if_ne (tgt := 97) hx hb dX8_pop_92 (by decide) (fun c92 => ?_) (fun c92 => ?_)
                    · replace c92 : ¬ 1 = 0 := fun zq => c92 ((nI_eq (a := 1) (b := 0) (by omega) (by omega)).mpr zq)
                      refine lv_aload_n hx hb dX8_pop_97 rfl (lv_at hl 0 rfl) ?_
                      refine lv_aload_n hx hb dX8_pop_98 rfl (lv_at hl 1 rfl) ?_
                      refine q_get C hP hY rfl inX8 2 (by decide) g1169 rfl dX8_pop_99 ?_
                      refine q_callS (rest := []) C (c_X8_copy l D cy N0 hv10 (ra j) (rk j) (rv j) (S j).1 (nI (S j).2.2.1) (nI (S j).2.2.2) rwj nj Fj Gj (ra 28) (rk 28) (rv 28) kdw smw dpw rww nw fw gw ⟨hRj.1, hRj.2.1, hRj.2.2.1, faj, fkj, fvj⟩ ⟨hRw.1, hRw.2.1, hRw.2.2.1, faw, fkw, fvw⟩ apj (by omega)) kX8_copy g1257 g1258 hP hS (by first | decide | omega) hl.1 rfl (by decide) (by first | decide | omega) dX8_pop_102 (fun q ce E h' H1 locs1 hE => hE.elim) (fun v hh16 H locs hq hP hS => ?_)
                      obtain ⟨rfl, rfl⟩ := hq
                      obtain ⟨hv11, ehv11⟩ : ∃ z : qH, z = qRh cy hv10 (ra 28) (rk 28) (rv 28) ((S j).1) (nI nj) (nI (S j).2.2.1) (nI (S j).2.2.2) rwj (qCp Fj fw nj) (qCp Gj gw nj) := ⟨_, rfl⟩
                      rw [← ehv11] at hP
                      have r9 : qRw cy hv11 (ra 28) (rk 28) (rv 28) ((S j).1) (nI nj) (nI (S j).2.2.1) (nI (S j).2.2.2) rwj (qCp Fj fw nj) (qCp Gj gw nj) := by rw [ehv11]; exact qRw.new (cy := cy) (h := hv10) (kd := kdw) (n := (nI nw)) (sm := smw) (dp := dpw) (rw := rww) (f := fw) (g := gw) ⟨hRw.1, hRw.2.1, hRw.2.2.1, faw, fkw, fvw⟩
                      have khv11 : ∀ b o, qOf (ra 28) (rk 28) (rv 28) b → hv10 b = some o → hv11 b = some o := by rw [ehv11]; exact fun b o q hb => (qRh_o q.1 q.2.1 q.2.2).trans hb
                      replace hY := khv11 _ _ ⟨fun q => by rw [q] at hY; have := faw.symm.trans hY; first | cases this | simp at this, fun q => by rw [q] at hY; have := fkw.symm.trans hY; first | cases this | simp at this, fun q => by rw [q] at hY; have := fvw.symm.trans hY; first | cases this | simp at this⟩ hY
                      replace hms := khv11 _ _ ⟨fun q => by rw [q] at hms; have := faw.symm.trans hms; first | cases this | simp at this, fun q => by rw [q] at hms; have := fkw.symm.trans hms; first | cases this | simp at this, fun q => by rw [q] at hms; have := fvw.symm.trans hms; first | cases this | simp at this⟩ hms
                      replace hmb := khv11 _ _ ⟨fun q => by rw [q] at hmb; have := faw.symm.trans hmb; first | cases this | simp at this, fun q => by rw [q] at hmb; have := fkw.symm.trans hmb; first | cases this | simp at this, fun q => by rw [q] at hmb; have := fvw.symm.trans hmb; first | cases this | simp at this⟩ hmb
                      replace faj := khv11 _ _ apj.1 faj
                      replace fkj := khv11 _ _ apj.2.1 fkj
                      replace fvj := khv11 _ _ apj.2.2 fvj
                      replace fr := fun b o hb n1 n2 => khv11 b o n2 (fr b o hb n1 n2)
                      clear faw fkw fvw
                      have faw := r9.2.2.2.1
                      have fkw := r9.2.2.2.2.1
                      have fvw := r9.2.2.2.2.2
                      unfold qRb at faw
                      unfold qJr at fkw fvw
                      clear r9 ehv11
                      have lw : qLs ((S j).1) (qCp Fj fw nj) (qCp Gj gw nj) nj = (S j).2.1 := by rw [qLs_cp]; exact hLj.symm
                      refine lv_aload_n hx hb dX8_pop_105 rfl (lv_at hl 0 rfl) ?_
                      refine q_get C hP faj rfl inX7 2 (by decide) g1142 rfl dX8_pop_106 ?_
                      refine lv_bipush (v := 6) hx hb dX8_pop_109 (by decide) ?_
                      refine lv_icmp_ne (tgt := 176) hx hb dX8_pop_111 (by decide) (fun c => absurd c58 c) (fun _ => ?_)
                      obtain ⟨m8, f8⟩ := hM.fin0 hY0 (h' := hv11) ⟨hRw.1, hRw.2.1, hRw.2.2.1, faw, fkw, fvw⟩ fr
                      obtain ⟨q8, r8⟩ := hQ.rowM (o' := (oCd (ms, mb, ra 28, od, pt, ro, gr, cd, ca, mv, ct, fau, rn) 0)) hY0 hY m8 f8 ⟨rfl, rfl, rfl, rfl, rfl, rfl⟩
                      obtain ⟨Ff, hff, hfj, hfb⟩ := q8.1.first hY
                      refine lv_aload_n hx hb dX8_pop_114 rfl (lv_at hl 1 rfl) ?_
                      refine q_get C hP hY rfl inX8 11 (by decide) g1178 rfl dX8_pop_115 ?_
                      refine lv_aload_n hx hb dX8_pop_118 rfl (lv_at hl 0 rfl) ?_
                      refine q_get C hP faj rfl inX7 4 (by decide) g1144 rfl dX8_pop_119 ?_
                      refine q_laldN C hP hff (by omega) (by omega) dX8_pop_122 ?_
                      rw [hfj ((S j).2.2.1) hs8.1]
                      refine lv_lstore (lv' := [(4, .long (a.2.2.1 ((S j).2.2.1))), (3, .ref (ra j)), (0, .ref y), (1, .int (nI i)), (2, .int (nI j))]) hx hb dX8_pop_123 hl (by decide) rfl (fun ls hl => ?_)
                      clear q8 r8 m8 f8
                      refine lv_aload_n hx hb dX8_pop_125 rfl (lv_at hl 2 rfl) ?_
                      refine lv_iconst (v := nI 0) hx hb dX8_pop_126 (by decide) ?_
                      refine q_put C hP hS hY rfl inX8 tyX8 tyX8_ok nmX8 10 (by decide) g1177 rfl rfl rfl (Nat.le_of_ble_eq_true rfl) dX8_pop_127 (fun H locs hP hS => ?_)
                      replace hP : qP D N0 (qs hv11 y (.inr (8, [.ref ms, .ref mb, .ref (ra 28), .int gr, .int 0, .int ca, .int mv, .ref od, .ref pt, .int ct, .int (nI 0), .ref fi, .ref re, .int cs, .ref rc, .ref rs, .ref so, .ref ot, .ref cn, .ref la, .int ce, .ref ro, .int rn]))) H := hP
                      obtain ⟨hv12, ehv12⟩ : ∃ z : qH, z = qs hv11 y (.inr (8, [.ref ms, .ref mb, .ref (ra 28), .int gr, .int 0, .int ca, .int mv, .ref od, .ref pt, .int ct, .int (nI 0), .ref fi, .ref re, .int cs, .ref rc, .ref rs, .ref so, .ref ot, .ref cn, .ref la, .int ce, .ref ro, .int rn])) := ⟨_, rfl⟩
                      rw [← ehv12] at hP
                      have khv12 : ∀ b o, b ≠ y → hv11 b = some o → hv12 b = some o := by rw [ehv12]; exact fun b o nb hb => (qs_ne nb).trans hb
                      replace hms := khv12 _ _ (fun q => by subst q; have := hms.symm.trans hY; first | cases this | simp at this) hms
                      replace hmb := khv12 _ _ (fun q => by subst q; have := hmb.symm.trans hY; first | cases this | simp at this) hmb
                      replace faw := khv12 _ _ (fun q => by have z9 := faw; rw [q] at z9; have := z9.symm.trans hY; first | cases this | simp at this) faw
                      replace fkw := khv12 _ _ (fun q => by have z9 := fkw; rw [q] at z9; have := z9.symm.trans hY; first | cases this | simp at this) fkw
                      replace fvw := khv12 _ _ (fun q => by have z9 := fvw; rw [q] at z9; have := z9.symm.trans hY; first | cases this | simp at this) fvw
                      replace faj := khv12 _ _ (fun q => by have z9 := faj; rw [q] at z9; have := z9.symm.trans hY; first | cases this | simp at this) faj
                      replace fkj := khv12 _ _ (fun q => by have z9 := fkj; rw [q] at z9; have := z9.symm.trans hY; first | cases this | simp at this) fkj
                      replace fvj := khv12 _ _ (fun q => by have z9 := fvj; rw [q] at z9; have := z9.symm.trans hY; first | cases this | simp at this) fvj
                      replace hY : hv12 y = some (.inr (8, [.ref ms, .ref mb, .ref (ra 28), .int gr, .int 0, .int ca, .int mv, .ref od, .ref pt, .int ct, .int (nI 0), .ref fi, .ref re, .int cs, .ref rc, .ref rs, .ref so, .ref ot, .ref cn, .ref la, .int ce, .ref ro, .int rn])) := by rw [ehv12]; exact qs_self
                      clear ehv12
                      replace fr := fun b o hb n1 n2 => khv12 b o n1 (fr b o hb n1 n2)
                      obtain ⟨m8, f8⟩ := hM.fin0 hY0 (h' := hv12) ⟨hRw.1, hRw.2.1, hRw.2.2.1, faw, fkw, fvw⟩ fr
                      obtain ⟨q8, r8⟩ := hQ.rowM (o' := (oFa (oCd (ms, mb, ra 28, od, pt, ro, gr, cd, ca, mv, ct, fau, rn) 0) 0)) hY0 hY m8 f8 ⟨rfl, rfl, rfl, rfl, rfl, rfl⟩
                      obtain ⟨Fr, hre, hrj⟩ := q8.1.rest hY
                      refine lv_aload_n hx hb dX8_pop_130 rfl (lv_at hl 2 rfl) ?_
                      refine lv_aload_n hx hb dX8_pop_131 rfl (lv_at hl 2 rfl) ?_
                      refine q_get C hP hY rfl inX8 12 (by decide) g1179 rfl dX8_pop_132 ?_
                      refine lv_aload_n hx hb dX8_pop_135 rfl (lv_at hl 1 rfl) ?_
                      refine q_get C hP faj rfl inX7 4 (by decide) g1144 rfl dX8_pop_136 ?_
                      refine q_ialdN C hP hre (by omega) (by omega) dX8_pop_139 ?_
                      rw [hrj ((S j).2.2.1) hs8.1, hV.r _ hs8.1]
                      have hV8 : qWv Bd sl Rn dp ((oFa (oCd (ms, mb, ra 28, od, pt, ro, gr, cd, ca, mv, ct, fau, rn) 0) 0), a, k) := hV.obj rfl
                      obtain ⟨s2, o2, a2, k2, er9⟩ : ∃ z1 z2 z3 z4, F ((oFa (oCd (ms, mb, ra 28, od, pt, ro, gr, cd, ca, mv, ct, fau, rn) 0) 0), a, k) (S j).2.2.1 = (z1, z2, z3, z4) := ⟨_, _, _, _, rfl⟩
                      have hcall := hF hv12 A (oFa (oCd (ms, mb, ra 28, od, pt, ro, gr, cd, ca, mv, ct, fau, rn) 0) 0) a k _ dp (S j).2.2.1 q8.1 q8.2.1 q8.2.2.2.2.1 hV8 rfl hs8.1 (by omega)
                      rw [er9] at hcall
                      dsimp only at hcall
                      have st9 := hG _ dp ((oFa (oCd (ms, mb, ra 28, od, pt, ro, gr, cd, ca, mv, ct, fau, rn) 0) 0), a, k) (S j).2.2.1 hV8 rfl hs8.1 (by omega)
                      rw [er9] at st9
                      obtain ⟨dp2, d1, w2, d3, d4, d5, ⟨x6, y6, z6, e6⟩, d7⟩ := st9
                      dsimp only at d3 d4 e6
                      subst e6
                      have hX2 : X = if ¬ z6 = 0 then (z6 + 3, 0, S, oFa (oMv (oCa (oFa (oCd (ms, mb, ra 28, od, pt, ro, gr, cd, ca, mv, ct, fau, rn) 0) 0) x6) y6) z6, a2, k2) else (0, a.2.2.1 (S j).2.2.1, qU S i ((S j).1, (S j).2.1, s2, (S j).2.2.2), oFa (oMv (oCa (oFa (oCd (ms, mb, ra 28, od, pt, ro, gr, cd, ca, mv, ct, fau, rn) 0) 0) x6) y6) z6, a2, k2) := by rw [← hX]; unfold xs_pop; rw [if_neg (by rw [ebi, ebj]; decide), ecj, if_neg (by rw [hoj]; decide), eci]; unfold xr_pop; rw [if_pos c58, if_neg (by omega)]; dsimp only; rw [er9]; rfl
                      have hpm := qP_mono (a := a) (b := a2) (by omega) d4
                      have eP1 : qP1 X.2.2.2.2.1 = qP1 a2 := by rw [hX2]; split <;> rfl
                      have eP2 : qP2 X.2.2.2.2.1 = qP2 a2 := by rw [hX2]; split <;> rfl
                      refine q_callV (rest := []) C (hcall) kX8_force g1331 g1333 rfl gp50 g4 hP hS hY (by first | decide | omega) hl.1 rfl (by decide) (by first | decide | omega) dX8_pop_140 (fun q ce E h' H1 locs1 hE => hE.elim) (fun v hh17 H locs hq hP hS => ?_)
                      obtain ⟨rfl, A1, hS1, hF1, nA1⟩ := hq
                      have ap9 := q8.2.2.2.2.2
                      replace hms := hF1.1 _ _ hms (qne_arr (cy := cy) hms hY) ap9.two.1
                      replace hmb := hF1.1 _ _ hmb (qne_arr (cy := cy) hmb hY) ap9.two.2
                      replace faw := hF1.1 _ _ faw (fun z => by rw [z] at faw; have := faw.symm.trans hY; cases this) (ap9.row (i := 28) (by omega)).1
                      replace fkw := hF1.1 _ _ fkw (qne_arr (cy := cy) fkw hY) (ap9.row (i := 28) (by omega)).2.1
                      replace fvw := hF1.1 _ _ fvw (qne_arr (cy := cy) fvw hY) (ap9.row (i := 28) (by omega)).2.2
                      replace faj := hF1.1 _ _ faj (fun z => by rw [z] at faj; have := faj.symm.trans hY; cases this) (ap9.row (i := j) (by omega)).1
                      replace fkj := hF1.1 _ _ fkj (qne_arr (cy := cy) fkj hY) (ap9.row (i := j) (by omega)).2.1
                      replace fvj := hF1.1 _ _ fvj (qne_arr (cy := cy) fvj hY) (ap9.row (i := j) (by omega)).2.2
                      obtain ⟨q7a, r7a⟩ := q8.str hS1 hF1 nA1 ⟨rfl, rfl, rfl, rfl, rfl, rfl⟩
                      have rta := r8.tr q8 rfl r7a
                      clear hY
                      obtain ⟨fja, rja, rcja, rsja, soja, otja, cnja, laja, hY⟩ := q7a.1.yo2
                      unfold qYo at hY
                      dsimp only [oFa, oMv, oCa, oCd] at hY
                      have hY0 := hY
                      have hM := q7a.2.2.1
                      have hrs := hM.2.2.2.2.1
                      replace hRw : qRw cy hh17 (ra 28) (rk 28) (rv 28) ((S j).1) (nI nj) (nI (S j).2.2.1) (nI (S j).2.2.2) rwj (qCp Fj fw nj) (qCp Gj gw nj) := ⟨hRw.1, hRw.2.1, hRw.2.2.1, faw, fkw, fvw⟩
                      replace fr : ∀ b o, hh17 b = some o → b ≠ y → qOf (ra 28) (rk 28) (rv 28) b → hh17 b = some o := fun b o hb _ _ => hb
                      refine lv_istore (lv' := [(6, .int (nI s2)), (4, .long (a.2.2.1 ((S j).2.2.1))), (3, .ref (ra j)), (0, .ref y), (1, .int (nI i)), (2, .int (nI j))]) hx hb dX8_pop_143 hl (by decide) rfl (fun ls hl => ?_)
                      refine lv_aload_n hx hb dX8_pop_145 rfl (lv_at hl 3 rfl) ?_
                      refine q_get C hP hY rfl inX8 10 (by decide) g1177 rfl dX8_pop_146 ?_
                      refine lv_if_eq (tgt := 164) hx hb dX8_pop_149 (by decide) (fun c149 => ?_) (fun c149 => ?_)
                      · refine lv_aload_n hx hb dX8_pop_164 rfl (lv_at hl 3 rfl) ?_
                        refine q_get C hP hY rfl inX8 2 (by decide) g1169 rfl dX8_pop_165 ?_
                        refine lv_iload hx hb dX8_pop_168 (lv_at hl 0 rfl) ?_
                        refine q_put C hP hS faw rfl inX7 tyX7 tyX7_ok nmX7 4 (by decide) g1144 rfl rfl rfl (Nat.le_of_ble_eq_true rfl) dX8_pop_170 (fun H locs hP hS => ?_)
                        replace hP : qP D N0 (qs hh17 (ra 28) (.inr (7, [.ref (rk 28), .ref (rv 28), .int (S j).1, .int (nI nj), .int (nI s2), .int (nI (S j).2.2.2), .int rwj]))) H := hP
                        obtain ⟨hv13, ehv13⟩ : ∃ z : qH, z = qs hh17 (ra 28) (.inr (7, [.ref (rk 28), .ref (rv 28), .int (S j).1, .int (nI nj), .int (nI s2), .int (nI (S j).2.2.2), .int rwj])) := ⟨_, rfl⟩
                        rw [← ehv13] at hP
                        have khv13 : ∀ b o, b ≠ (ra 28) → hh17 b = some o → hv13 b = some o := by rw [ehv13]; exact fun b o nb hb => (qs_ne nb).trans hb
                        replace hY := khv13 _ _ (fun q => by have z9 := hY; rw [q] at z9; have := z9.symm.trans faw; first | cases this | simp at this) hY
                        replace hms := khv13 _ _ (fun q => by have z9 := hms; rw [q] at z9; have := z9.symm.trans faw; first | cases this | simp at this) hms
                        replace hmb := khv13 _ _ (fun q => by have z9 := hmb; rw [q] at z9; have := z9.symm.trans faw; first | cases this | simp at this) hmb
                        replace fkw := khv13 _ _ (fun q => by have z9 := fkw; rw [q] at z9; have := z9.symm.trans faw; first | cases this | simp at this) fkw
                        replace fvw := khv13 _ _ (fun q => by have z9 := fvw; rw [q] at z9; have := z9.symm.trans faw; first | cases this | simp at this) fvw
                        replace faj := khv13 _ _ apj.1.1 faj
                        replace fkj := khv13 _ _ apj.2.1.1 fkj
                        replace fvj := khv13 _ _ apj.2.2.1 fvj
                        replace faw : hv13 (ra 28) = some (.inr (7, [.ref (rk 28), .ref (rv 28), .int (S j).1, .int (nI nj), .int (nI s2), .int (nI (S j).2.2.2), .int rwj])) := by rw [ehv13]; exact qs_self
                        clear ehv13
                        replace fr := fun b o hb n1 n2 => khv13 b o n2.1 (fr b o hb n1 n2)
                        refine lv_goto (tgt := 216) hx hb dX8_pop_173 (by decide) ?_
                        refine lv_aload_n hx hb dX8_pop_216 rfl (lv_at hl 3 rfl) ?_
                        refine lv_iload_n hx hb dX8_pop_217 rfl (lv_at hl 4 rfl) ?_
                        refine lv_iconst (v := nI 0) hx hb dX8_pop_218 (by decide) ?_
                        obtain ⟨ni, rwi, Fi, Gi, hRi, hni, hLi, hKi⟩ := hrs i (by omega)
                        have api := hRi.apart hRw (hmd.two (i := i) (j := 28) (by omega) (by omega) (by omega))
                        replace hRi := hRi.keep2 (fun b o hb ho => fr b o ho (hRi.ney hY0 hb) (hb.elim (fun q => q ▸ api.1) (fun hb => hb.elim (fun q => q ▸ api.2.1) (fun q => q ▸ api.2.2))))
                        have fai := hRi.2.2.2.1
                        have fki := hRi.2.2.2.2.1
                        have fvi := hRi.2.2.2.2.2
                        unfold qRb at fai
                        unfold qJr at fki fvi
                        refine q_callV (rest := []) C (c_X8_done l D cy N0 hv13 y ms mb od pt fja rja rcja rsja soja otja cnja laja ro gr 0 x6 y6 ct z6 (nI a2.1) (nI k2.1) rn ra rk rv i (nI 0) (S j).1 (nI s2) (nI (S j).2.2.2) rwj nj (qCp Fj fw nj) (qCp Gj gw nj) (S i).1 (nI (S i).2.2.1) (nI (S i).2.2.2) rwi ni Fi Gi hY hms hmd ⟨hRw.1, hRw.2.1, hRw.2.2.1, faw, fkw, fvw⟩ ⟨hRi.1, hRi.2.1, hRi.2.2.1, fai, fki, fvi⟩ (by omega) (by omega)) kX8_done g1293 g1295 rfl gp45 g4 hP hS hY (by first | decide | omega) hl.1 rfl (by decide) (by first | decide | omega) dX8_pop_219 (fun q ce E h' H1 locs1 hE => hE.elim) (fun v hh18 H locs hq hP hS => ?_)
                        obtain ⟨rfl, hY9, hw9, hi9, fr9⟩ := hq
                        replace fr := fun b o hb n1 n2 n3 => fr9 b o (fr b o hb n1 n2) n1 n2 n3
                        rw [show y6 + nI 0 = y6 from Int32.add_zero _] at hY9
                        refine lv_pop hx hb dX8_pop_222 rfl ?_
                        refine lv_lload hx hb dX8_pop_223 (lv_at hl 1 rfl) ?_
                        obtain ⟨m9, f9⟩ := hM.fin hY0 (i := i) (by omega) (s := ((S j).1, (S j).2.1, s2, (S j).2.2.2)) ⟨nj, _, _, _, hi9, by omega, by rw [qLs_cp]; exact lw.symm, Or.inl rfl⟩ hw9 fr
                        obtain ⟨q9, r9⟩ := q7a.rowM (o' := oCd (oFa (oMv (oCa (oFa (oCd (ms, mb, ra 28, od, pt, ro, gr, cd, ca, mv, ct, fau, rn) 0) 0) x6) y6) z6) 0) hY0 hY9 m9 f9 ⟨rfl, rfl, rfl, rfl, rfl, rfl⟩
                        rw [if_neg (fun z => z c149)] at hX2
                        exact q_lret C hP hS ⟨by rw [hX2], A1, by rw [hX2]; exact q9, rta.tr q7a rfl r9⟩ (by omega) dX8_pop_225
                      · refine lv_aload_n hx hb dX8_pop_152 rfl (lv_at hl 3 rfl) ?_
                        refine lv_aload_n hx hb dX8_pop_153 rfl (lv_at hl 3 rfl) ?_
                        refine q_get C hP hY rfl inX8 10 (by decide) g1177 rfl dX8_pop_154 ?_
                        refine lv_iconst (v := nI 3) hx hb dX8_pop_157 (by decide) ?_
                        refine lv_iadd hx hb dX8_pop_158 ?_
                        refine q_put C hP hS hY rfl inX8 tyX8 tyX8_ok nmX8 4 (by decide) g1171 rfl rfl rfl (Nat.le_of_ble_eq_true rfl) dX8_pop_159 (fun H locs hP hS => ?_)
                        replace hP : qP D N0 (qs hh17 y (.inr (8, [.ref ms, .ref mb, .ref (ra 28), .int gr, .int (z6 + (nI 3)), .int x6, .int y6, .ref od, .ref pt, .int ct, .int z6, .ref fja, .ref rja, .int (nI a2.1), .ref rcja, .ref rsja, .ref soja, .ref otja, .ref cnja, .ref laja, .int (nI k2.1), .ref ro, .int rn]))) H := hP
                        obtain ⟨hv14, ehv14⟩ : ∃ z : qH, z = qs hh17 y (.inr (8, [.ref ms, .ref mb, .ref (ra 28), .int gr, .int (z6 + (nI 3)), .int x6, .int y6, .ref od, .ref pt, .int ct, .int z6, .ref fja, .ref rja, .int (nI a2.1), .ref rcja, .ref rsja, .ref soja, .ref otja, .ref cnja, .ref laja, .int (nI k2.1), .ref ro, .int rn])) := ⟨_, rfl⟩
                        rw [← ehv14] at hP
                        have khv14 : ∀ b o, b ≠ y → hh17 b = some o → hv14 b = some o := by rw [ehv14]; exact fun b o nb hb => (qs_ne nb).trans hb
                        replace hms := khv14 _ _ (fun q => by subst q; have := hms.symm.trans hY; first | cases this | simp at this) hms
                        replace hmb := khv14 _ _ (fun q => by subst q; have := hmb.symm.trans hY; first | cases this | simp at this) hmb
                        replace faw := khv14 _ _ (fun q => by have z9 := faw; rw [q] at z9; have := z9.symm.trans hY; first | cases this | simp at this) faw
                        replace fkw := khv14 _ _ (fun q => by have z9 := fkw; rw [q] at z9; have := z9.symm.trans hY; first | cases this | simp at this) fkw
                        replace fvw := khv14 _ _ (fun q => by have z9 := fvw; rw [q] at z9; have := z9.symm.trans hY; first | cases this | simp at this) fvw
                        replace faj := khv14 _ _ (fun q => by have z9 := faj; rw [q] at z9; have := z9.symm.trans hY; first | cases this | simp at this) faj
                        replace fkj := khv14 _ _ (fun q => by have z9 := fkj; rw [q] at z9; have := z9.symm.trans hY; first | cases this | simp at this) fkj
                        replace fvj := khv14 _ _ (fun q => by have z9 := fvj; rw [q] at z9; have := z9.symm.trans hY; first | cases this | simp at this) fvj
                        replace hY : hv14 y = some (.inr (8, [.ref ms, .ref mb, .ref (ra 28), .int gr, .int (z6 + (nI 3)), .int x6, .int y6, .ref od, .ref pt, .int ct, .int z6, .ref fja, .ref rja, .int (nI a2.1), .ref rcja, .ref rsja, .ref soja, .ref otja, .ref cnja, .ref laja, .int (nI k2.1), .ref ro, .int rn])) := by rw [ehv14]; exact qs_self
                        clear ehv14
                        replace fr := fun b o hb n1 n2 => khv14 b o n1 (fr b o hb n1 n2)
                        refine lv_lconst (v := 0) hx hb dX8_pop_162 (by decide) ?_
                        obtain ⟨m9, f9⟩ := hM.fin0 hY0 (h' := hv14) ⟨hRw.1, hRw.2.1, hRw.2.2.1, faw, fkw, fvw⟩ fr
                        obtain ⟨q9, r9⟩ := q7a.rowM (o' := oCd (oFa (oMv (oCa (oFa (oCd (ms, mb, ra 28, od, pt, ro, gr, cd, ca, mv, ct, fau, rn) 0) 0) x6) y6) z6) (z6 + 3)) hY0 hY m9 f9 ⟨rfl, rfl, rfl, rfl, rfl, rfl⟩
                        rw [if_pos c149] at hX2
                        exact q_lret C hP hS ⟨by rw [hX2], A1, by rw [hX2]; exact q9, rta.tr q7a rfl r9⟩ (by omega) dX8_pop_163
                    · replace c92 : 1 = 0 := (nI_eq (a := 1) (b := 0) (by omega) (by omega)).mp c92
                      exfalso; omega
              · replace c39 : 1 = 0 := (nI_eq (a := 1) (b := 0) (by omega) (by omega)).mp c39
                exfalso; omega
      · have ebj : bSl p1 = false := bSl_f sl9
        refine lv_if_eq (tgt := 19) hx hb dX8_pop_12 (by decide) (fun c12 => ?_) (fun c12 => ?_)
        · replace c12 : 0 = 0 := (nI_eq (a := 0) (b := 0) (by omega) (by omega)).mp c12
          refine lv_iconst (v := nI 0) hx hb dX8_pop_19 (by decide) ?_
          refine lv_iconst (v := nI 1) hx hb dX8_pop_20 (by decide) ?_
          refine q_callV (rest := []) C (c_X8_good0 l D cy N0 h y ms mb (ra 28) od pt fi re rc rs so ot cn la ro gr cd ca mv ct fau cs ce rn (nI 1) hY) kX8_good g1249 g1251 rfl gp41 g4 hP hS hY (by first | decide | omega) hl.1 rfl (by decide) (by first | decide | omega) dX8_pop_21 (fun q ce E h' H1 locs1 hE => hE.elim) (fun v hh19 H locs hq hP hS => ?_)
          obtain ⟨rfl, rfl⟩ := hq
          replace hP : qP D N0 (qs h y (.inr (8, [.ref ms, .ref mb, .ref (ra 28), .int gr, .int (nI 1), .int ca, .int mv, .ref od, .ref pt, .int ct, .int fau, .ref fi, .ref re, .int cs, .ref rc, .ref rs, .ref so, .ref ot, .ref cn, .ref la, .int ce, .ref ro, .int rn]))) H := hP
          obtain ⟨hv15, ehv15⟩ : ∃ z : qH, z = qs h y (.inr (8, [.ref ms, .ref mb, .ref (ra 28), .int gr, .int (nI 1), .int ca, .int mv, .ref od, .ref pt, .int ct, .int fau, .ref fi, .ref re, .int cs, .ref rc, .ref rs, .ref so, .ref ot, .ref cn, .ref la, .int ce, .ref ro, .int rn])) := ⟨_, rfl⟩
          rw [← ehv15] at hP
          have khv15 : ∀ b o, b ≠ y → h b = some o → hv15 b = some o := by rw [ehv15]; exact fun b o nb hb => (qs_ne nb).trans hb
          replace hms := khv15 _ _ (fun q => by subst q; have := hms.symm.trans hY; first | cases this | simp at this) hms
          replace hmb := khv15 _ _ (fun q => by subst q; have := hmb.symm.trans hY; first | cases this | simp at this) hmb
          replace faw := khv15 _ _ (fun q => by have z9 := faw; rw [q] at z9; have := z9.symm.trans hY; first | cases this | simp at this) faw
          replace fkw := khv15 _ _ (fun q => by have z9 := fkw; rw [q] at z9; have := z9.symm.trans hY; first | cases this | simp at this) fkw
          replace fvw := khv15 _ _ (fun q => by have z9 := fvw; rw [q] at z9; have := z9.symm.trans hY; first | cases this | simp at this) fvw
          replace hY : hv15 y = some (.inr (8, [.ref ms, .ref mb, .ref (ra 28), .int gr, .int (nI 1), .int ca, .int mv, .ref od, .ref pt, .int ct, .int fau, .ref fi, .ref re, .int cs, .ref rc, .ref rs, .ref so, .ref ot, .ref cn, .ref la, .int ce, .ref ro, .int rn])) := by rw [ehv15]; exact qs_self
          clear ehv15
          replace fr := fun b o hb n1 n2 => khv15 b o n1 (fr b o hb n1 n2)
          refine lv_if_eq (tgt := 42) hx hb dX8_pop_24 (by decide) (fun c24 => ?_) (fun c24 => ?_)
          · replace c24 : 0 = 0 := (nI_eq (a := 0) (b := 0) (by omega) (by omega)).mp c24
            refine lv_lconst (v := 0) hx hb dX8_pop_42 (by decide) ?_
            have eX : X = (1, 0, S, (ms, mb, ra 28, od, pt, ro, gr, cd, ca, mv, ct, fau, rn), a, k) := by rw [← hX]; unfold xs_pop; rw [if_pos (by simp [ebi, ebj])]
            obtain ⟨m8, f8⟩ := hM.fin0 hY0 (h' := hv15) ⟨hRw.1, hRw.2.1, hRw.2.2.1, faw, fkw, fvw⟩ fr
            obtain ⟨q8, r8⟩ := hQ.rowM (o' := oCd (ms, mb, ra 28, od, pt, ro, gr, cd, ca, mv, ct, fau, rn) 1) hY0 hY m8 f8 ⟨rfl, rfl, rfl, rfl, rfl, rfl⟩
            exact q_lret C hP hS ⟨by rw [eX], A, by rw [eX]; exact q8, r8⟩ (by omega) dX8_pop_43
          · replace c24 : ¬ 0 = 0 := fun zq => c24 ((nI_eq (a := 0) (b := 0) (by omega) (by omega)).mpr zq)
            exfalso; omega
        · replace c12 : ¬ 0 = 0 := fun zq => c12 ((nI_eq (a := 0) (b := 0) (by omega) (by omega)).mpr zq)
          exfalso; omega
  · have ebi : bSl p0 = false := bSl_f sl9
    refine lv_if_eq (tgt := 19) hx hb dX8_pop_5 (by decide) (fun c5 => ?_) (fun c5 => ?_)
    · replace c5 : 0 = 0 := (nI_eq (a := 0) (b := 0) (by omega) (by omega)).mp c5
      refine lv_iconst (v := nI 0) hx hb dX8_pop_19 (by decide) ?_
      refine lv_iconst (v := nI 1) hx hb dX8_pop_20 (by decide) ?_
      refine q_callV (rest := []) C (c_X8_good0 l D cy N0 h y ms mb (ra 28) od pt fi re rc rs so ot cn la ro gr cd ca mv ct fau cs ce rn (nI 1) hY) kX8_good g1249 g1251 rfl gp41 g4 hP hS hY (by first | decide | omega) hl.1 rfl (by decide) (by first | decide | omega) dX8_pop_21 (fun q ce E h' H1 locs1 hE => hE.elim) (fun v hh20 H locs hq hP hS => ?_)
      obtain ⟨rfl, rfl⟩ := hq
      replace hP : qP D N0 (qs h y (.inr (8, [.ref ms, .ref mb, .ref (ra 28), .int gr, .int (nI 1), .int ca, .int mv, .ref od, .ref pt, .int ct, .int fau, .ref fi, .ref re, .int cs, .ref rc, .ref rs, .ref so, .ref ot, .ref cn, .ref la, .int ce, .ref ro, .int rn]))) H := hP
      obtain ⟨hv16, ehv16⟩ : ∃ z : qH, z = qs h y (.inr (8, [.ref ms, .ref mb, .ref (ra 28), .int gr, .int (nI 1), .int ca, .int mv, .ref od, .ref pt, .int ct, .int fau, .ref fi, .ref re, .int cs, .ref rc, .ref rs, .ref so, .ref ot, .ref cn, .ref la, .int ce, .ref ro, .int rn])) := ⟨_, rfl⟩
      rw [← ehv16] at hP
      have khv16 : ∀ b o, b ≠ y → h b = some o → hv16 b = some o := by rw [ehv16]; exact fun b o nb hb => (qs_ne nb).trans hb
      replace hms := khv16 _ _ (fun q => by subst q; have := hms.symm.trans hY; first | cases this | simp at this) hms
      replace hmb := khv16 _ _ (fun q => by subst q; have := hmb.symm.trans hY; first | cases this | simp at this) hmb
      replace faw := khv16 _ _ (fun q => by have z9 := faw; rw [q] at z9; have := z9.symm.trans hY; first | cases this | simp at this) faw
      replace fkw := khv16 _ _ (fun q => by have z9 := fkw; rw [q] at z9; have := z9.symm.trans hY; first | cases this | simp at this) fkw
      replace fvw := khv16 _ _ (fun q => by have z9 := fvw; rw [q] at z9; have := z9.symm.trans hY; first | cases this | simp at this) fvw
      replace hY : hv16 y = some (.inr (8, [.ref ms, .ref mb, .ref (ra 28), .int gr, .int (nI 1), .int ca, .int mv, .ref od, .ref pt, .int ct, .int fau, .ref fi, .ref re, .int cs, .ref rc, .ref rs, .ref so, .ref ot, .ref cn, .ref la, .int ce, .ref ro, .int rn])) := by rw [ehv16]; exact qs_self
      clear ehv16
      replace fr := fun b o hb n1 n2 => khv16 b o n1 (fr b o hb n1 n2)
      refine lv_if_eq (tgt := 42) hx hb dX8_pop_24 (by decide) (fun c24 => ?_) (fun c24 => ?_)
      · replace c24 : 0 = 0 := (nI_eq (a := 0) (b := 0) (by omega) (by omega)).mp c24
        refine lv_lconst (v := 0) hx hb dX8_pop_42 (by decide) ?_
        have eX : X = (1, 0, S, (ms, mb, ra 28, od, pt, ro, gr, cd, ca, mv, ct, fau, rn), a, k) := by rw [← hX]; unfold xs_pop; rw [if_pos (by simp [ebi])]
        obtain ⟨m8, f8⟩ := hM.fin0 hY0 (h' := hv16) ⟨hRw.1, hRw.2.1, hRw.2.2.1, faw, fkw, fvw⟩ fr
        obtain ⟨q8, r8⟩ := hQ.rowM (o' := oCd (ms, mb, ra 28, od, pt, ro, gr, cd, ca, mv, ct, fau, rn) 1) hY0 hY m8 f8 ⟨rfl, rfl, rfl, rfl, rfl, rfl⟩
        exact q_lret C hP hS ⟨by rw [eX], A, by rw [eX]; exact q8, r8⟩ (by omega) dX8_pop_43
      · replace c24 : ¬ 0 = 0 := fun zq => c24 ((nI_eq (a := 0) (b := 0) (by omega) (by omega)).mpr zq)
        exfalso; omega
    · replace c5 : ¬ 0 = 0 := fun zq => c5 ((nI_eq (a := 0) (b := 0) (by omega) (by omega)).mpr zq)
      exfalso; omega
