/-- the first t numbers from s on; it stops at a fault -/
def xLst (F : qWo → Nat → Nat × qWo) : Nat → qWo → Nat → List Int64 × qWo
  | 0, W, _ => ([], W)
  | t + 1, W, s => if s = 0 then ([], W) else if t = 0 then ([W.2.1.2.2.1 s], W) else
      if ¬ oFq (F W s).2.1 = 0 then ([W.2.1.2.2.1 s], (F W s).2) else (W.2.1.2.2.1 s :: (xLst F t (F W s).2 (F W s).1).1, (xLst F t (F W s).2 (F W s).1).2)
theorem xLst_nil {F : qWo → Nat → Nat × qWo} {t s : Nat} {W : qWo} (h : t = 0 ∨ s = 0) : xLst F t W s = ([], W) := by
  cases t with
  | zero => rfl
  | succ t => rw [xLst, if_pos (h.resolve_left (by omega))]
theorem xLst_step {F : qWo → Nat → Nat × qWo} {t s s2 : Nat} {W : qWo} {o2 : qYf} {a2 : qWd} {k2 : qKd} (hs : ¬ s = 0) (ht : ¬ t = 0) (e : F W s = (s2, o2, a2, k2)) : xLst F (t + 1) W s = if ¬ oFq o2 = 0 then ([W.2.1.2.2.1 s], (o2, a2, k2)) else (W.2.1.2.2.1 s :: (xLst F t (o2, a2, k2) s2).1, (xLst F t (o2, a2, k2) s2).2) := by
  rw [xLst, if_neg hs, if_neg ht, e]
theorem xLst_stp {Bd Rn sl d dc : Nat} {F : qWo → Nat → Nat × qWo} (hF : qFg Bd Rn F d) (hdc : dc < d) : ∀ (t s : Nat) (dp : Nat → Nat) (W : qWo), qWv Bd sl Rn dp W → oFq W.1 = 0 → s < W.2.1.1 ∧ dp s ≤ dc → qStp Bd sl Rn dp W (0, (xLst F t W s).2) dc
  | 0, s, dp, W, i, _, hs => i.stay rfl oSame
  | t + 1, s, dp, W, i, hf, hs => by
    unfold xLst
    by_cases c1 : s = 0
    · rw [if_pos c1]; exact i.stay rfl oSame
    rw [if_neg c1]
    by_cases c2 : t = 0
    · rw [if_pos c2]; exact i.stay rfl oSame
    rw [if_neg c2]
    have st := hF sl dp W s i hf hs.1 (by omega)
    by_cases c5 : ¬ oFq (F W s).2.1 = 0
    · rw [if_pos c5]; exact st.bad c5
    · rw [if_neg c5]
      have c6 := Decidable.not_not.mp c5
      refine st.tr (fun dp' h1 h2 h3 => xLst_stp hF hdc t _ dp' _ h2 c6 ?_)
      have := h3 c6
      exact ⟨this.1, by omega⟩
/-- what list answers at its end -/
def xLfin (S : Nat → qSlot) (i q : Nat) (r : List Int64 × qWo) : Int32 × Int32 × (Nat → qSlot) × qWo :=
  if oFq r.2.1 = 1 then (3, 0, S, r.2) else if ¬ oFq r.2.1 = 0 ∨ 20000 < (oMq r.2.1).toNatClampNeg + q then (4, 0, S, r.2) else (0, nI r.1.length, qU S i (0, r.1.map (fun v => (v, 0)), 0, 0), oMv r.2.1 (oMq r.2.1 + nI q), r.2.2)
theorem xLfin_a {S : Nat → qSlot} {i q : Nat} {r : List Int64 × qWo} : (xLfin S i q r).2.2.2.2.1 = r.2.2.1 := by
  unfold xLfin; split
  · rfl
  · split <;> rfl
def xs_list (F : qWo → Nat → Nat × qWo) (S : Nat → qSlot) (W : qWo) (p0 p1 p2 : Int32) : Int32 × Int32 × (Nat → qSlot) × qWo := if bSl p0 = false ∨ bSl p1 = false ∨ p2 < 0 ∨ 1000 < p2.toNatClampNeg then (1, 0, S, W) else if bHo (S p1.toNatClampNeg).1 64 = false then (2, 0, S, W) else xLfin S p0.toNatClampNeg p2.toNatClampNeg (xLst F p2.toNatClampNeg (oFa (oCd W.1 0) 0, W.2) (S p1.toNatClampNeg).2.2.1)
theorem dX8_list_55 : decode cX8_list 55 = .ok (.aload_n 0, 1) := by decide +kernel
theorem dX8_list_56 : decode cX8_list 56 = .ok (.getfield 9, 3) := by decide +kernel
theorem dX8_list_59 : decode cX8_list 59 = .ok (.iload_n 2, 1) := by decide +kernel
theorem dX8_list_60 : decode cX8_list 60 = .ok (.aaload, 1) := by decide +kernel
theorem dX8_list_61 : decode cX8_list 61 = .ok (.getfield 81, 3) := by decide +kernel
theorem dX8_list_64 : decode cX8_list 64 = .ok (.istore 4, 2) := by decide +kernel
theorem dX8_list_66 : decode cX8_list 66 = .ok (.aload_n 0, 1) := by decide +kernel
theorem dX8_list_67 : decode cX8_list 67 = .ok (.getfield 19, 3) := by decide +kernel
theorem dX8_list_70 : decode cX8_list 70 = .ok (.iconst 0, 1) := by decide +kernel
theorem dX8_list_71 : decode cX8_list 71 = .ok (.putfield 75, 3) := by decide +kernel
theorem dX8_list_74 : decode cX8_list 74 = .ok (.aload_n 0, 1) := by decide +kernel
theorem dX8_list_75 : decode cX8_list 75 = .ok (.getfield 19, 3) := by decide +kernel
theorem dX8_list_78 : decode cX8_list 78 = .ok (.iconst 0, 1) := by decide +kernel
theorem dX8_list_79 : decode cX8_list 79 = .ok (.putfield 78, 3) := by decide +kernel
theorem dX8_list_82 : decode cX8_list 82 = .ok (.aload_n 0, 1) := by decide +kernel
theorem dX8_list_83 : decode cX8_list 83 = .ok (.getfield 19, 3) := by decide +kernel
theorem dX8_list_86 : decode cX8_list 86 = .ok (.iconst 0, 1) := by decide +kernel
theorem dX8_list_87 : decode cX8_list 87 = .ok (.putfield 81, 3) := by decide +kernel
theorem dX8_list_90 : decode cX8_list 90 = .ok (.aload_n 0, 1) := by decide +kernel
theorem dX8_list_91 : decode cX8_list 91 = .ok (.getfield 19, 3) := by decide +kernel
theorem dX8_list_94 : decode cX8_list 94 = .ok (.iconst 0, 1) := by decide +kernel
theorem dX8_list_95 : decode cX8_list 95 = .ok (.putfield 84, 3) := by decide +kernel
theorem dX8_list_98 : decode cX8_list 98 = .ok (.aload_n 0, 1) := by decide +kernel
theorem dX8_list_99 : decode cX8_list 99 = .ok (.iconst 0, 1) := by decide +kernel
theorem dX8_list_100 : decode cX8_list 100 = .ok (.putfield 155, 3) := by decide +kernel
theorem dX8_list_103 : decode cX8_list 103 = .ok (.iload 4, 2) := by decide +kernel
theorem dX8_list_105 : decode cX8_list 105 = .ok (.ifCond .le 83, 3) := by decide +kernel
theorem dX8_list_108 : decode cX8_list 108 = .ok (.aload_n 0, 1) := by decide +kernel
theorem dX8_list_109 : decode cX8_list 109 = .ok (.getfield 19, 3) := by decide +kernel
theorem dX8_list_112 : decode cX8_list 112 = .ok (.getfield 78, 3) := by decide +kernel
theorem dX8_list_115 : decode cX8_list 115 = .ok (.iload_n 3, 1) := by decide +kernel
theorem dX8_list_116 : decode cX8_list 116 = .ok (.if_icmp .ge 72, 3) := by decide +kernel
theorem dX8_list_119 : decode cX8_list 119 = .ok (.aload_n 0, 1) := by decide +kernel
theorem dX8_list_120 : decode cX8_list 120 = .ok (.getfield 19, 3) := by decide +kernel
theorem dX8_list_123 : decode cX8_list 123 = .ok (.getfield 90, 3) := by decide +kernel
theorem dX8_list_126 : decode cX8_list 126 = .ok (.aload_n 0, 1) := by decide +kernel
theorem dX8_list_127 : decode cX8_list 127 = .ok (.getfield 19, 3) := by decide +kernel
theorem dX8_list_130 : decode cX8_list 130 = .ok (.getfield 78, 3) := by decide +kernel
theorem dX8_list_133 : decode cX8_list 133 = .ok (.aload_n 0, 1) := by decide +kernel
theorem dX8_list_134 : decode cX8_list 134 = .ok (.getfield 32, 3) := by decide +kernel
theorem dX8_list_137 : decode cX8_list 137 = .ok (.iload 4, 2) := by decide +kernel
theorem dX8_list_139 : decode cX8_list 139 = .ok (.laload, 1) := by decide +kernel
theorem dX8_list_140 : decode cX8_list 140 = .ok (.lastore, 1) := by decide +kernel
theorem dX8_list_141 : decode cX8_list 141 = .ok (.aload_n 0, 1) := by decide +kernel
theorem dX8_list_142 : decode cX8_list 142 = .ok (.getfield 19, 3) := by decide +kernel
theorem dX8_list_145 : decode cX8_list 145 = .ok (.dup, 1) := by decide +kernel
theorem dX8_list_146 : decode cX8_list 146 = .ok (.getfield 78, 3) := by decide +kernel
theorem dX8_list_149 : decode cX8_list 149 = .ok (.iconst 1, 1) := by decide +kernel
theorem dX8_list_150 : decode cX8_list 150 = .ok (.iadd, 1) := by decide +kernel
theorem dX8_list_151 : decode cX8_list 151 = .ok (.putfield 78, 3) := by decide +kernel
theorem dX8_list_154 : decode cX8_list 154 = .ok (.aload_n 0, 1) := by decide +kernel
theorem dX8_list_155 : decode cX8_list 155 = .ok (.getfield 19, 3) := by decide +kernel
theorem dX8_list_158 : decode cX8_list 158 = .ok (.getfield 78, 3) := by decide +kernel
theorem dX8_list_161 : decode cX8_list 161 = .ok (.iload_n 3, 1) := by decide +kernel
theorem dX8_list_162 : decode cX8_list 162 = .ok (.if_icmp .ge 16, 3) := by decide +kernel
theorem dX8_list_165 : decode cX8_list 165 = .ok (.aload_n 0, 1) := by decide +kernel
theorem dX8_list_166 : decode cX8_list 166 = .ok (.aload_n 0, 1) := by decide +kernel
theorem dX8_list_167 : decode cX8_list 167 = .ok (.getfield 36, 3) := by decide +kernel
theorem dX8_list_170 : decode cX8_list 170 = .ok (.iload 4, 2) := by decide +kernel
theorem dX8_list_172 : decode cX8_list 172 = .ok (.iaload, 1) := by decide +kernel
theorem dX8_list_173 : decode cX8_list 173 = .ok (.invokevirtual 158, 3) := by decide +kernel
theorem dX8_list_176 : decode cX8_list 176 = .ok (.istore 4, 2) := by decide +kernel
theorem dX8_list_178 : decode cX8_list 178 = .ok (.aload_n 0, 1) := by decide +kernel
theorem dX8_list_179 : decode cX8_list 179 = .ok (.getfield 155, 3) := by decide +kernel
theorem dX8_list_182 : decode cX8_list 182 = .ok (.ifCond .eq (-79), 3) := by decide +kernel
theorem dX8_list_185 : decode cX8_list 185 = .ok (.goto 3, 3) := by decide +kernel
theorem dX8_list_188 : decode cX8_list 188 = .ok (.aload_n 0, 1) := by decide +kernel
theorem dX8_list_189 : decode cX8_list 189 = .ok (.aload_n 0, 1) := by decide +kernel
theorem dX8_list_190 : decode cX8_list 190 = .ok (.getfield 155, 3) := by decide +kernel
theorem dX8_list_193 : decode cX8_list 193 = .ok (.iconst 1, 1) := by decide +kernel
theorem dX8_list_194 : decode cX8_list 194 = .ok (.if_icmp .eq 7, 3) := by decide +kernel
theorem dX8_list_197 : decode cX8_list 197 = .ok (.iconst 1, 1) := by decide +kernel
theorem dX8_list_198 : decode cX8_list 198 = .ok (.goto 4, 3) := by decide +kernel
theorem dX8_list_201 : decode cX8_list 201 = .ok (.iconst 0, 1) := by decide +kernel
theorem dX8_list_202 : decode cX8_list 202 = .ok (.iconst 3, 1) := by decide +kernel
theorem dX8_list_203 : decode cX8_list 203 = .ok (.invokevirtual 100, 3) := by decide +kernel
theorem dX8_list_206 : decode cX8_list 206 = .ok (.ifCond .eq 32, 3) := by decide +kernel
theorem dX8_list_209 : decode cX8_list 209 = .ok (.aload_n 0, 1) := by decide +kernel
theorem dX8_list_210 : decode cX8_list 210 = .ok (.aload_n 0, 1) := by decide +kernel
theorem dX8_list_211 : decode cX8_list 211 = .ok (.getfield 155, 3) := by decide +kernel
theorem dX8_list_214 : decode cX8_list 214 = .ok (.ifCond .ne 16, 3) := by decide +kernel
theorem dX8_list_217 : decode cX8_list 217 = .ok (.aload_n 0, 1) := by decide +kernel
theorem dX8_list_218 : decode cX8_list 218 = .ok (.iconst 0, 1) := by decide +kernel
theorem dX8_list_219 : decode cX8_list 219 = .ok (.iload_n 3, 1) := by decide +kernel
theorem dX8_list_220 : decode cX8_list 220 = .ok (.invokevirtual 165, 3) := by decide +kernel
theorem dX8_list_223 : decode cX8_list 223 = .ok (.ifCond .eq 7, 3) := by decide +kernel
theorem dX8_list_226 : decode cX8_list 226 = .ok (.iconst 1, 1) := by decide +kernel
theorem dX8_list_227 : decode cX8_list 227 = .ok (.goto 4, 3) := by decide +kernel
theorem dX8_list_230 : decode cX8_list 230 = .ok (.iconst 0, 1) := by decide +kernel
theorem dX8_list_231 : decode cX8_list 231 = .ok (.iconst 4, 1) := by decide +kernel
theorem dX8_list_232 : decode cX8_list 232 = .ok (.invokevirtual 100, 3) := by decide +kernel
theorem dX8_list_235 : decode cX8_list 235 = .ok (.ifCond .ne 5, 3) := by decide +kernel
theorem dX8_list_238 : decode cX8_list 238 = .ok (.iconst 0, 1) := by decide +kernel
theorem dX8_list_239 : decode cX8_list 239 = .ok (.ireturn, 1) := by decide +kernel
theorem dX8_list_240 : decode cX8_list 240 = .ok (.aload_n 0, 1) := by decide +kernel
theorem dX8_list_241 : decode cX8_list 241 = .ok (.iload_n 1, 1) := by decide +kernel
theorem dX8_list_242 : decode cX8_list 242 = .ok (.iload_n 3, 1) := by decide +kernel
theorem dX8_list_243 : decode cX8_list 243 = .ok (.invokevirtual 135, 3) := by decide +kernel
theorem dX8_list_246 : decode cX8_list 246 = .ok (.ireturn, 1) := by decide +kernel
set_option maxRecDepth 100000 in
set_option maxHeartbeats 4000000 in
theorem w_list (l : Launch) (D : va_G) (cy : Nat → ClassId) (N0 : Nat) (h : qH) (y ms mb mw od pt fi re rc rs so ot cn la ro : Nat) (gr cd ca mv ct fau cs ce rn : Int32) (ra rk rv : Nat → Nat) (S : Nat → qSlot) (pa : Nat → Nat) (A : Nat → Prop) (a : qWd) (k : qKd) (R : Nat → List Int64) (ad : Nat → Nat) (Rn : Nat) (Bd sl d dc : Nat) (dp : Nat → Nat) (F : qWo → Nat → Nat × qWo) (p0 p1 p2 : Int32) (X : Int32 × Int32 × (Nat → qSlot) × qWo) (hY : h y = some (.inr (8, [.ref ms, .ref mb, .ref mw, .int gr, .int cd, .int ca, .int mv, .ref od, .ref pt, .int ct, .int fau, .ref fi, .ref re, .int cs, .ref rc, .ref rs, .ref so, .ref ot, .ref cn, .ref la, .int ce, .ref ro, .int rn]))) (hQ : qRF cy h y A ra rk rv pa (ms, mb, mw, od, pt, ro, gr, cd, ca, mv, ct, fau, rn) a k S Rn R ad) (hI : ∀ i, i < 28 → qOk (S i).1 (S i).2.1) (hV : qWv Bd sl Rn dp ((ms, mb, mw, od, pt, ro, gr, cd, ca, mv, ct, fau, rn), a, k)) (hB : Bd ≤ 4000) (hF : qFS l D cy N0 y Bd Rn R ad F d) (hG : qFg Bd Rn F d) (hdc : dc < d) (hSt : ∀ i, i < 24 → (S i).1 = 6 → (S i).2.2.1 < a.1 ∧ dp (S i).2.2.1 ≤ dc) (hX : xs_list F S ((ms, mb, mw, od, pt, ro, gr, cd, ca, mv, ct, fau, rn), a, k) p0 p1 p2 = X) : qC l D cy N0 yX8_list cX8_list 5 (some .int) (4 * d + 20) (200 * d + 700) (qP1 X.2.2.2.2.1 - qP1 a) (qP2 X.2.2.2.2.1 - qP2 a) [.ref y, .int p0, .int p1, .int p2] h (fun v h' => v = some (.int X.2.1) ∧ ∃ A', qRF cy h' y A' ra rk rv pa (oCd X.2.2.2.1 X.1) X.2.2.2.2.1 X.2.2.2.2.2 X.2.2.1 Rn R ad ∧ qFR h h' y od ra rk rv pa A A') (fun E h' => False) := by
  refine q_ofW (by decide) (by exact Nat.le_of_ble_eq_true rfl) ?_
  intro p e s m below meth c ls C hP hl
  have hx := C.1
  have hb := C.2.1
  have hS : va_S (qA N0) s.heap s.heap [] := va_S.rf
  have hl : lv_has ls 5 [(0, .ref y), (1, .int p0), (2, .int p1), (3, .int p2)] := hl
  have hM : qMR cy h ms mb mw ra rk rv S := hQ.2.2.1
  have hY0 := hY
  obtain ⟨hms, hmb, hmw, hmd, hrs, kdw, smw, dpw, rww, nw, fw, gw, hRw⟩ := id hM
  subst hmw
  have fr : ∀ b o, h b = some o → b ≠ y → qOf (ra 28) (rk 28) (rv 28) b → h b = some o := fun b o hb _ _ => hb
  have faw := hRw.2.2.2.1
  have fkw := hRw.2.2.2.2.1
  have fvw := hRw.2.2.2.2.2
  unfold qRb at faw
  unfold qJr at fkw fvw
  obtain ⟨P0, eP0⟩ : ∃ z, z = qP1 a := ⟨_, rfl⟩
  obtain ⟨Q0, eQ0⟩ : ∃ z, z = qP2 a := ⟨_, rfl⟩
  refine lv_aload_n hx hb dX8_list_0 rfl (lv_at hl 0 rfl) ?_
  refine lv_iload_n hx hb dX8_list_1 rfl (lv_at hl 1 rfl) ?_
  refine q_callS (rest := [.ref y]) C (c_X8_isSlot l D cy N0 h p0) kX8_isSlot g1246 g1247 hP hS (by first | decide | omega) hl.1 rfl (by simp [q_catrf, q_cati, q_catl, q_cata, q_catn]) (by first | decide | omega) dX8_list_2 (fun q ce E h' H1 locs1 hE => hE.elim) (fun v hh1 H locs hq hP hS => ?_)
  obtain ⟨rfl, ⟨rfl, sl9⟩ | ⟨rfl, sl9⟩⟩ := hq
  · obtain ⟨i, hi, rfl⟩ := sl9.of
    have ebi : bSl (nI i) = true := bSl_t sl9
    have eci : (nI i).toNatClampNeg = i := nI_clamp (by omega)
    refine lv_if_eq (tgt := 30) hx hb dX8_list_5 (by decide) (fun c5 => ?_) (fun c5 => ?_)
    · replace c5 : 1 = 0 := (nI_eq (a := 1) (b := 0) (by omega) (by omega)).mp c5
      exfalso; omega
    · replace c5 : ¬ 1 = 0 := fun zq => c5 ((nI_eq (a := 1) (b := 0) (by omega) (by omega)).mpr zq)
      refine lv_iload_n hx hb dX8_list_8 rfl (lv_at hl 2 rfl) ?_
      refine q_callS (rest := [.ref y]) C (c_X8_isSlot l D cy N0 h p1) kX8_isSlot g1246 g1247 hP hS (by first | decide | omega) hl.1 rfl (by simp [q_catrf, q_cati, q_catl, q_cata, q_catn]) (by first | decide | omega) dX8_list_9 (fun q ce E h' H1 locs1 hE => hE.elim) (fun v hh2 H locs hq hP hS => ?_)
      obtain ⟨rfl, ⟨rfl, sl9⟩ | ⟨rfl, sl9⟩⟩ := hq
      · obtain ⟨j, hj, rfl⟩ := sl9.of
        have ebj : bSl (nI j) = true := bSl_t sl9
        have ecj : (nI j).toNatClampNeg = j := nI_clamp (by omega)
        refine lv_if_eq (tgt := 30) hx hb dX8_list_12 (by decide) (fun c12 => ?_) (fun c12 => ?_)
        · replace c12 : 1 = 0 := (nI_eq (a := 1) (b := 0) (by omega) (by omega)).mp c12
          exfalso; omega
        · replace c12 : ¬ 1 = 0 := fun zq => c12 ((nI_eq (a := 1) (b := 0) (by omega) (by omega)).mpr zq)
          refine lv_iload_n hx hb dX8_list_15 rfl (lv_at hl 3 rfl) ?_
          refine lv_if_lt (tgt := 30) hx hb dX8_list_16 (by decide) (fun c16 => ?_) (fun c16 => ?_)
          · refine lv_iconst (v := nI 0) hx hb dX8_list_30 (by decide) ?_
            refine lv_iconst (v := nI 1) hx hb dX8_list_31 (by decide) ?_
            refine q_callV (rest := []) C (c_X8_good0 l D cy N0 h y ms mb (ra 28) od pt fi re rc rs so ot cn la ro gr cd ca mv ct fau cs ce rn (nI 1) hY) kX8_good g1249 g1251 rfl gp41 g4 hP hS hY (by first | decide | omega) hl.1 rfl (by decide) (by first | decide | omega) dX8_list_32 (fun q ce E h' H1 locs1 hE => hE.elim) (fun v hh3 H locs hq hP hS => ?_)
            obtain ⟨rfl, rfl⟩ := hq
            replace hP : qP D N0 (qs h y (.inr (8, [.ref ms, .ref mb, .ref (ra 28), .int gr, .int (nI 1), .int ca, .int mv, .ref od, .ref pt, .int ct, .int fau, .ref fi, .ref re, .int cs, .ref rc, .ref rs, .ref so, .ref ot, .ref cn, .ref la, .int ce, .ref ro, .int rn]))) H := hP
            obtain ⟨hv1, ehv1⟩ : ∃ z : qH, z = qs h y (.inr (8, [.ref ms, .ref mb, .ref (ra 28), .int gr, .int (nI 1), .int ca, .int mv, .ref od, .ref pt, .int ct, .int fau, .ref fi, .ref re, .int cs, .ref rc, .ref rs, .ref so, .ref ot, .ref cn, .ref la, .int ce, .ref ro, .int rn])) := ⟨_, rfl⟩
            rw [← ehv1] at hP
            have khv1 : ∀ b o, b ≠ y → h b = some o → hv1 b = some o := by rw [ehv1]; exact fun b o nb hb => (qs_ne nb).trans hb
            replace hms := khv1 _ _ (fun q => by subst q; have := hms.symm.trans hY; first | cases this | simp at this) hms
            replace hmb := khv1 _ _ (fun q => by subst q; have := hmb.symm.trans hY; first | cases this | simp at this) hmb
            replace faw := khv1 _ _ (fun q => by have z9 := faw; rw [q] at z9; have := z9.symm.trans hY; first | cases this | simp at this) faw
            replace fkw := khv1 _ _ (fun q => by have z9 := fkw; rw [q] at z9; have := z9.symm.trans hY; first | cases this | simp at this) fkw
            replace fvw := khv1 _ _ (fun q => by have z9 := fvw; rw [q] at z9; have := z9.symm.trans hY; first | cases this | simp at this) fvw
            replace hY : hv1 y = some (.inr (8, [.ref ms, .ref mb, .ref (ra 28), .int gr, .int (nI 1), .int ca, .int mv, .ref od, .ref pt, .int ct, .int fau, .ref fi, .ref re, .int cs, .ref rc, .ref rs, .ref so, .ref ot, .ref cn, .ref la, .int ce, .ref ro, .int rn])) := by rw [ehv1]; exact qs_self
            clear ehv1
            replace fr := fun b o hb n1 n2 => khv1 b o n1 (fr b o hb n1 n2)
            refine lv_if_eq (tgt := 53) hx hb dX8_list_35 (by decide) (fun c35 => ?_) (fun c35 => ?_)
            · replace c35 : 0 = 0 := (nI_eq (a := 0) (b := 0) (by omega) (by omega)).mp c35
              refine lv_iconst (v := nI 0) hx hb dX8_list_53 (by decide) ?_
              have eX : X = (1, 0, S, (ms, mb, ra 28, od, pt, ro, gr, cd, ca, mv, ct, fau, rn), a, k) := by rw [← hX]; unfold xs_list; rw [if_pos (Or.inr (Or.inr (Or.inl c16)))]
              obtain ⟨m8, f8⟩ := hM.fin0 hY0 (h' := hv1) ⟨hRw.1, hRw.2.1, hRw.2.2.1, faw, fkw, fvw⟩ fr
              obtain ⟨q8, r8⟩ := hQ.rowM (o' := oCd (ms, mb, ra 28, od, pt, ro, gr, cd, ca, mv, ct, fau, rn) 1) hY0 hY m8 f8 ⟨rfl, rfl, rfl, rfl, rfl, rfl⟩
              exact q_iret C hP hS ⟨by rw [eX]; rfl, A, by rw [eX]; exact q8, r8⟩ (by omega) dX8_list_54
            · replace c35 : ¬ 0 = 0 := fun zq => c35 ((nI_eq (a := 0) (b := 0) (by omega) (by omega)).mpr zq)
              exfalso; omega
          · obtain ⟨q, hq9, rfl⟩ := nI_of c16
            have ecq : (nI q).toNatClampNeg = q := nI_clamp hq9
            refine lv_iload_n hx hb dX8_list_19 rfl (lv_at hl 3 rfl) ?_
            refine lv_sipush (v := nI 1000) hx hb dX8_list_20 (by decide) ?_
            refine lv_icmp_gt (tgt := 30) hx hb dX8_list_23 (by decide) (fun c23 => ?_) (fun c23 => ?_)
            · replace c23 : 1000 < q := (nI_ltI (a := 1000) (b := q) (by omega) (by omega)).mp c23
              refine lv_iconst (v := nI 0) hx hb dX8_list_30 (by decide) ?_
              refine lv_iconst (v := nI 1) hx hb dX8_list_31 (by decide) ?_
              refine q_callV (rest := []) C (c_X8_good0 l D cy N0 h y ms mb (ra 28) od pt fi re rc rs so ot cn la ro gr cd ca mv ct fau cs ce rn (nI 1) hY) kX8_good g1249 g1251 rfl gp41 g4 hP hS hY (by first | decide | omega) hl.1 rfl (by decide) (by first | decide | omega) dX8_list_32 (fun q ce E h' H1 locs1 hE => hE.elim) (fun v hh4 H locs hq hP hS => ?_)
              obtain ⟨rfl, rfl⟩ := hq
              replace hP : qP D N0 (qs h y (.inr (8, [.ref ms, .ref mb, .ref (ra 28), .int gr, .int (nI 1), .int ca, .int mv, .ref od, .ref pt, .int ct, .int fau, .ref fi, .ref re, .int cs, .ref rc, .ref rs, .ref so, .ref ot, .ref cn, .ref la, .int ce, .ref ro, .int rn]))) H := hP
              obtain ⟨hv2, ehv2⟩ : ∃ z : qH, z = qs h y (.inr (8, [.ref ms, .ref mb, .ref (ra 28), .int gr, .int (nI 1), .int ca, .int mv, .ref od, .ref pt, .int ct, .int fau, .ref fi, .ref re, .int cs, .ref rc, .ref rs, .ref so, .ref ot, .ref cn, .ref la, .int ce, .ref ro, .int rn])) := ⟨_, rfl⟩
              rw [← ehv2] at hP
              have khv2 : ∀ b o, b ≠ y → h b = some o → hv2 b = some o := by rw [ehv2]; exact fun b o nb hb => (qs_ne nb).trans hb
              replace hms := khv2 _ _ (fun q => by subst q; have := hms.symm.trans hY; first | cases this | simp at this) hms
              replace hmb := khv2 _ _ (fun q => by subst q; have := hmb.symm.trans hY; first | cases this | simp at this) hmb
              replace faw := khv2 _ _ (fun q => by have z9 := faw; rw [q] at z9; have := z9.symm.trans hY; first | cases this | simp at this) faw
              replace fkw := khv2 _ _ (fun q => by have z9 := fkw; rw [q] at z9; have := z9.symm.trans hY; first | cases this | simp at this) fkw
              replace fvw := khv2 _ _ (fun q => by have z9 := fvw; rw [q] at z9; have := z9.symm.trans hY; first | cases this | simp at this) fvw
              replace hY : hv2 y = some (.inr (8, [.ref ms, .ref mb, .ref (ra 28), .int gr, .int (nI 1), .int ca, .int mv, .ref od, .ref pt, .int ct, .int fau, .ref fi, .ref re, .int cs, .ref rc, .ref rs, .ref so, .ref ot, .ref cn, .ref la, .int ce, .ref ro, .int rn])) := by rw [ehv2]; exact qs_self
              clear ehv2
              replace fr := fun b o hb n1 n2 => khv2 b o n1 (fr b o hb n1 n2)
              refine lv_if_eq (tgt := 53) hx hb dX8_list_35 (by decide) (fun c35 => ?_) (fun c35 => ?_)
              · replace c35 : 0 = 0 := (nI_eq (a := 0) (b := 0) (by omega) (by omega)).mp c35
                refine lv_iconst (v := nI 0) hx hb dX8_list_53 (by decide) ?_
                have eX : X = (1, 0, S, (ms, mb, ra 28, od, pt, ro, gr, cd, ca, mv, ct, fau, rn), a, k) := by rw [← hX]; unfold xs_list; rw [if_pos (Or.inr (Or.inr (Or.inr (by rw [ecq]; omega))))]
                obtain ⟨m8, f8⟩ := hM.fin0 hY0 (h' := hv2) ⟨hRw.1, hRw.2.1, hRw.2.2.1, faw, fkw, fvw⟩ fr
                obtain ⟨q8, r8⟩ := hQ.rowM (o' := oCd (ms, mb, ra 28, od, pt, ro, gr, cd, ca, mv, ct, fau, rn) 1) hY0 hY m8 f8 ⟨rfl, rfl, rfl, rfl, rfl, rfl⟩
                exact q_iret C hP hS ⟨by rw [eX]; rfl, A, by rw [eX]; exact q8, r8⟩ (by omega) dX8_list_54
              · replace c35 : ¬ 0 = 0 := fun zq => c35 ((nI_eq (a := 0) (b := 0) (by omega) (by omega)).mpr zq)
                exfalso; omega
            · replace c23 : ¬ 1000 < q := fun zq => c23 ((nI_ltI (a := 1000) (b := q) (by omega) (by omega)).mpr zq)
              refine lv_iconst (v := nI 1) hx hb dX8_list_26 (by decide) ?_
              refine lv_goto (tgt := 31) hx hb dX8_list_27 (by decide) ?_
              refine lv_iconst (v := nI 1) hx hb dX8_list_31 (by decide) ?_
              refine q_callV (rest := []) C (c_X8_good1 l D cy N0 h y ms mb (ra 28) od pt fi re rc rs so ot cn la ro gr cd ca mv ct fau cs ce rn (nI 1) hY) kX8_good g1249 g1251 rfl gp41 g4 hP hS hY (by first | decide | omega) hl.1 rfl (by decide) (by first | decide | omega) dX8_list_32 (fun q ce E h' H1 locs1 hE => hE.elim) (fun v hh5 H locs hq hP hS => ?_)
              obtain ⟨rfl, rfl⟩ := hq
              replace hP : qP D N0 (qs h y (.inr (8, [.ref ms, .ref mb, .ref (ra 28), .int gr, .int 0, .int ca, .int mv, .ref od, .ref pt, .int ct, .int fau, .ref fi, .ref re, .int cs, .ref rc, .ref rs, .ref so, .ref ot, .ref cn, .ref la, .int ce, .ref ro, .int rn]))) H := hP
              obtain ⟨hv3, ehv3⟩ : ∃ z : qH, z = qs h y (.inr (8, [.ref ms, .ref mb, .ref (ra 28), .int gr, .int 0, .int ca, .int mv, .ref od, .ref pt, .int ct, .int fau, .ref fi, .ref re, .int cs, .ref rc, .ref rs, .ref so, .ref ot, .ref cn, .ref la, .int ce, .ref ro, .int rn])) := ⟨_, rfl⟩
              rw [← ehv3] at hP
              have khv3 : ∀ b o, b ≠ y → h b = some o → hv3 b = some o := by rw [ehv3]; exact fun b o nb hb => (qs_ne nb).trans hb
              replace hms := khv3 _ _ (fun q => by subst q; have := hms.symm.trans hY; first | cases this | simp at this) hms
              replace hmb := khv3 _ _ (fun q => by subst q; have := hmb.symm.trans hY; first | cases this | simp at this) hmb
              replace faw := khv3 _ _ (fun q => by have z9 := faw; rw [q] at z9; have := z9.symm.trans hY; first | cases this | simp at this) faw
              replace fkw := khv3 _ _ (fun q => by have z9 := fkw; rw [q] at z9; have := z9.symm.trans hY; first | cases this | simp at this) fkw
              replace fvw := khv3 _ _ (fun q => by have z9 := fvw; rw [q] at z9; have := z9.symm.trans hY; first | cases this | simp at this) fvw
              replace hY : hv3 y = some (.inr (8, [.ref ms, .ref mb, .ref (ra 28), .int gr, .int 0, .int ca, .int mv, .ref od, .ref pt, .int ct, .int fau, .ref fi, .ref re, .int cs, .ref rc, .ref rs, .ref so, .ref ot, .ref cn, .ref la, .int ce, .ref ro, .int rn])) := by rw [ehv3]; exact qs_self
              clear ehv3
              replace fr := fun b o hb n1 n2 => khv3 b o n1 (fr b o hb n1 n2)
              refine lv_if_eq (tgt := 53) hx hb dX8_list_35 (by decide) (fun c35 => ?_) (fun c35 => ?_)
              · replace c35 : 1 = 0 := (nI_eq (a := 1) (b := 0) (by omega) (by omega)).mp c35
                exfalso; omega
              · replace c35 : ¬ 1 = 0 := fun zq => c35 ((nI_eq (a := 1) (b := 0) (by omega) (by omega)).mpr zq)
                refine lv_aload_n hx hb dX8_list_38 rfl (lv_at hl 0 rfl) ?_
                refine lv_aload_n hx hb dX8_list_39 rfl (lv_at hl 0 rfl) ?_
                refine lv_iload_n hx hb dX8_list_40 rfl (lv_at hl 2 rfl) ?_
                refine lv_bipush (v := nI 64) hx hb dX8_list_41 (by decide) ?_
                obtain ⟨nj, rwj, Fj, Gj, hRj, hnj, hLj, hKj⟩ := hrs j (by omega)
                have apj := hRj.apart hRw (hmd.two (i := j) (j := 28) (by omega) (by omega) (by omega))
                replace hRj := hRj.keep2 (fun b o hb ho => fr b o ho (hRj.ney hY0 hb) (hb.elim (fun q => q ▸ apj.1) (fun hb => hb.elim (fun q => q ▸ apj.2.1) (fun q => q ▸ apj.2.2))))
                have faj := hRj.2.2.2.1
                have fkj := hRj.2.2.2.2.1
                have fvj := hRj.2.2.2.2.2
                unfold qRb at faj
                unfold qJr at fkj fvj
                refine q_callV (rest := [.ref y]) C (c_X8_holds l D cy N0 hv3 y ms ra rk rv j 64 _ _ _ _ _ _ _ _ hY rfl hms ⟨hRj.1, hRj.2.1, hRj.2.2.1, faj, fkj, fvj⟩ (by omega)) kX8_holds g1264 g1266 rfl gp42 g4 hP hS hY (by first | decide | omega) hl.1 rfl (by simp [q_catrf, q_cati, q_catl, q_cata, q_catn]) (by first | decide | omega) dX8_list_43 (fun q ce E h' H1 locs1 hE => hE.elim) (fun v hh6 H locs hq hP hS => ?_)
                obtain ⟨rfl, rfl⟩ := hq
                cases hoj : bHo (S j).1 64 with
                | false =>
                  refine lv_iconst (v := nI 2) hx hb dX8_list_46 (by decide) ?_
                  refine q_callV (rest := []) C (c_X8_good0 l D cy N0 hv3 y ms mb (ra 28) od pt fi re rc rs so ot cn la ro gr 0 ca mv ct fau cs ce rn (nI 2) hY) kX8_good g1249 g1251 rfl gp41 g4 hP hS hY (by first | decide | omega) hl.1 rfl (by decide) (by first | decide | omega) dX8_list_47 (fun q ce E h' H1 locs1 hE => hE.elim) (fun v hh7 H locs hq hP hS => ?_)
                  obtain ⟨rfl, rfl⟩ := hq
                  replace hP : qP D N0 (qs hv3 y (.inr (8, [.ref ms, .ref mb, .ref (ra 28), .int gr, .int (nI 2), .int ca, .int mv, .ref od, .ref pt, .int ct, .int fau, .ref fi, .ref re, .int cs, .ref rc, .ref rs, .ref so, .ref ot, .ref cn, .ref la, .int ce, .ref ro, .int rn]))) H := hP
                  obtain ⟨hv4, ehv4⟩ : ∃ z : qH, z = qs hv3 y (.inr (8, [.ref ms, .ref mb, .ref (ra 28), .int gr, .int (nI 2), .int ca, .int mv, .ref od, .ref pt, .int ct, .int fau, .ref fi, .ref re, .int cs, .ref rc, .ref rs, .ref so, .ref ot, .ref cn, .ref la, .int ce, .ref ro, .int rn])) := ⟨_, rfl⟩
                  rw [← ehv4] at hP
                  have khv4 : ∀ b o, b ≠ y → hv3 b = some o → hv4 b = some o := by rw [ehv4]; exact fun b o nb hb => (qs_ne nb).trans hb
                  replace hms := khv4 _ _ (fun q => by subst q; have := hms.symm.trans hY; first | cases this | simp at this) hms
                  replace hmb := khv4 _ _ (fun q => by subst q; have := hmb.symm.trans hY; first | cases this | simp at this) hmb
                  replace faw := khv4 _ _ (fun q => by have z9 := faw; rw [q] at z9; have := z9.symm.trans hY; first | cases this | simp at this) faw
                  replace fkw := khv4 _ _ (fun q => by have z9 := fkw; rw [q] at z9; have := z9.symm.trans hY; first | cases this | simp at this) fkw
                  replace fvw := khv4 _ _ (fun q => by have z9 := fvw; rw [q] at z9; have := z9.symm.trans hY; first | cases this | simp at this) fvw
                  replace faj := khv4 _ _ (fun q => by have z9 := faj; rw [q] at z9; have := z9.symm.trans hY; first | cases this | simp at this) faj
                  replace fkj := khv4 _ _ (fun q => by have z9 := fkj; rw [q] at z9; have := z9.symm.trans hY; first | cases this | simp at this) fkj
                  replace fvj := khv4 _ _ (fun q => by have z9 := fvj; rw [q] at z9; have := z9.symm.trans hY; first | cases this | simp at this) fvj
                  replace hY : hv4 y = some (.inr (8, [.ref ms, .ref mb, .ref (ra 28), .int gr, .int (nI 2), .int ca, .int mv, .ref od, .ref pt, .int ct, .int fau, .ref fi, .ref re, .int cs, .ref rc, .ref rs, .ref so, .ref ot, .ref cn, .ref la, .int ce, .ref ro, .int rn])) := by rw [ehv4]; exact qs_self
                  clear ehv4
                  replace fr := fun b o hb n1 n2 => khv4 b o n1 (fr b o hb n1 n2)
                  refine lv_if_ne (tgt := 55) hx hb dX8_list_50 (by decide) (fun c50 => ?_) (fun c50 => ?_)
                  · replace c50 : ¬ 0 = 0 := fun zq => c50 ((nI_eq (a := 0) (b := 0) (by omega) (by omega)).mpr zq)
                    exfalso; omega
                  · replace c50 : 0 = 0 := (nI_eq (a := 0) (b := 0) (by omega) (by omega)).mp c50
                    refine lv_iconst (v := nI 0) hx hb dX8_list_53 (by decide) ?_
                    have eX : X = (2, 0, S, (ms, mb, ra 28, od, pt, ro, gr, cd, ca, mv, ct, fau, rn), a, k) := by rw [← hX]; unfold xs_list; rw [if_neg (by rw [ebi, ebj, ecq]; exact fun z => z.elim (fun z => by cases z) (fun z => z.elim (fun z => by cases z) (fun z => z.elim c16 (fun z => by omega)))), ecj, if_pos hoj]
                    obtain ⟨m8, f8⟩ := hM.fin0 hY0 (h' := hv4) ⟨hRw.1, hRw.2.1, hRw.2.2.1, faw, fkw, fvw⟩ fr
                    obtain ⟨q8, r8⟩ := hQ.rowM (o' := oCd (ms, mb, ra 28, od, pt, ro, gr, cd, ca, mv, ct, fau, rn) 2) hY0 hY m8 f8 ⟨rfl, rfl, rfl, rfl, rfl, rfl⟩
                    exact q_iret C hP hS ⟨by rw [eX]; rfl, A, by rw [eX]; exact q8, r8⟩ (by omega) dX8_list_54
                | true =>
                  refine lv_iconst (v := nI 2) hx hb dX8_list_46 (by decide) ?_
                  refine q_callV (rest := []) C (c_X8_good1 l D cy N0 hv3 y ms mb (ra 28) od pt fi re rc rs so ot cn la ro gr 0 ca mv ct fau cs ce rn (nI 2) hY) kX8_good g1249 g1251 rfl gp41 g4 hP hS hY (by first | decide | omega) hl.1 rfl (by decide) (by first | decide | omega) dX8_list_47 (fun q ce E h' H1 locs1 hE => hE.elim) (fun v hh8 H locs hq hP hS => ?_)
                  obtain ⟨rfl, rfl⟩ := hq
                  replace hP : qP D N0 (qs hv3 y (.inr (8, [.ref ms, .ref mb, .ref (ra 28), .int gr, .int 0, .int ca, .int mv, .ref od, .ref pt, .int ct, .int fau, .ref fi, .ref re, .int cs, .ref rc, .ref rs, .ref so, .ref ot, .ref cn, .ref la, .int ce, .ref ro, .int rn]))) H := hP
                  obtain ⟨hv5, ehv5⟩ : ∃ z : qH, z = qs hv3 y (.inr (8, [.ref ms, .ref mb, .ref (ra 28), .int gr, .int 0, .int ca, .int mv, .ref od, .ref pt, .int ct, .int fau, .ref fi, .ref re, .int cs, .ref rc, .ref rs, .ref so, .ref ot, .ref cn, .ref la, .int ce, .ref ro, .int rn])) := ⟨_, rfl⟩
                  rw [← ehv5] at hP
                  have khv5 : ∀ b o, b ≠ y → hv3 b = some o → hv5 b = some o := by rw [ehv5]; exact fun b o nb hb => (qs_ne nb).trans hb
                  replace hms := khv5 _ _ (fun q => by subst q; have := hms.symm.trans hY; first | cases this | simp at this) hms
                  replace hmb := khv5 _ _ (fun q => by subst q; have := hmb.symm.trans hY; first | cases this | simp at this) hmb
                  replace faw := khv5 _ _ (fun q => by have z9 := faw; rw [q] at z9; have := z9.symm.trans hY; first | cases this | simp at this) faw
                  replace fkw := khv5 _ _ (fun q => by have z9 := fkw; rw [q] at z9; have := z9.symm.trans hY; first | cases this | simp at this) fkw
                  replace fvw := khv5 _ _ (fun q => by have z9 := fvw; rw [q] at z9; have := z9.symm.trans hY; first | cases this | simp at this) fvw
                  replace faj := khv5 _ _ (fun q => by have z9 := faj; rw [q] at z9; have := z9.symm.trans hY; first | cases this | simp at this) faj
                  replace fkj := khv5 _ _ (fun q => by have z9 := fkj; rw [q] at z9; have := z9.symm.trans hY; first | cases this | simp at this) fkj
                  replace fvj := khv5 _ _ (fun q => by have z9 := fvj; rw [q] at z9; have := z9.symm.trans hY; first | cases this | simp at this) fvj
                  replace hY : hv5 y = some (.inr (8, [.ref ms, .ref mb, .ref (ra 28), .int gr, .int 0, .int ca, .int mv, .ref od, .ref pt, .int ct, .int fau, .ref fi, .ref re, .int cs, .ref rc, .ref rs, .ref so, .ref ot, .ref cn, .ref la, .int ce, .ref ro, .int rn])) := by rw [ehv5]; exact qs_self
                  clear ehv5
                  replace fr := fun b o hb n1 n2 => khv5 b o n1 (fr b o hb n1 n2)
                  refine lv_if_ne (tgt := 55) hx hb dX8_list_50 (by decide) (fun c50 => ?_) (fun c50 => ?_)
                  · replace c50 : ¬ 1 = 0 := fun zq => c50 ((nI_eq (a := 1) (b := 0) (by omega) (by omega)).mpr zq)
                    refine lv_aload_n hx hb dX8_list_55 rfl (lv_at hl 0 rfl) ?_
                    refine q_get C hP hY rfl inX8 0 (by decide) g1167 rfl dX8_list_56 ?_
                    refine lv_iload_n hx hb dX8_list_59 rfl (lv_at hl 2 rfl) ?_
                    refine q_aaldR C hP hms rfl (by omega) (by omega) rfl dX8_list_60 ?_
                    refine q_get C hP faj rfl inX7 4 (by decide) g1144 rfl dX8_list_61 ?_
                    refine lv_istore (lv' := [(4, .int (nI (S j).2.2.1)), (0, .ref y), (1, .int (nI i)), (2, .int (nI j)), (3, .int (nI q))]) hx hb dX8_list_64 hl (by decide) rfl (fun ls hl => ?_)
                    refine lv_aload_n hx hb dX8_list_66 rfl (lv_at hl 1 rfl) ?_
                    refine q_get C hP hY rfl inX8 2 (by decide) g1169 rfl dX8_list_67 ?_
                    refine lv_iconst (v := nI 0) hx hb dX8_list_70 (by decide) ?_
                    refine q_put C hP hS faw rfl inX7 tyX7 tyX7_ok nmX7 2 (by decide) g1142 rfl rfl rfl (Nat.le_of_ble_eq_true rfl) dX8_list_71 (fun H locs hP hS => ?_)
                    replace hP : qP D N0 (qs hv5 (ra 28) (.inr (7, [.ref (rk 28), .ref (rv 28), .int (nI 0), .int (nI nw), .int smw, .int dpw, .int rww]))) H := hP
                    obtain ⟨hv6, ehv6⟩ : ∃ z : qH, z = qs hv5 (ra 28) (.inr (7, [.ref (rk 28), .ref (rv 28), .int (nI 0), .int (nI nw), .int smw, .int dpw, .int rww])) := ⟨_, rfl⟩
                    rw [← ehv6] at hP
                    have khv6 : ∀ b o, b ≠ (ra 28) → hv5 b = some o → hv6 b = some o := by rw [ehv6]; exact fun b o nb hb => (qs_ne nb).trans hb
                    replace hY := khv6 _ _ (fun q => by have z9 := hY; rw [q] at z9; have := z9.symm.trans faw; first | cases this | simp at this) hY
                    replace hms := khv6 _ _ (fun q => by have z9 := hms; rw [q] at z9; have := z9.symm.trans faw; first | cases this | simp at this) hms
                    replace hmb := khv6 _ _ (fun q => by have z9 := hmb; rw [q] at z9; have := z9.symm.trans faw; first | cases this | simp at this) hmb
                    replace fkw := khv6 _ _ (fun q => by have z9 := fkw; rw [q] at z9; have := z9.symm.trans faw; first | cases this | simp at this) fkw
                    replace fvw := khv6 _ _ (fun q => by have z9 := fvw; rw [q] at z9; have := z9.symm.trans faw; first | cases this | simp at this) fvw
                    replace faj := khv6 _ _ apj.1.1 faj
                    replace fkj := khv6 _ _ apj.2.1.1 fkj
                    replace fvj := khv6 _ _ apj.2.2.1 fvj
                    replace faw : hv6 (ra 28) = some (.inr (7, [.ref (rk 28), .ref (rv 28), .int (nI 0), .int (nI nw), .int smw, .int dpw, .int rww])) := by rw [ehv6]; exact qs_self
                    clear ehv6
                    replace fr := fun b o hb n1 n2 => khv6 b o n2.1 (fr b o hb n1 n2)
                    refine lv_aload_n hx hb dX8_list_74 rfl (lv_at hl 1 rfl) ?_
                    refine q_get C hP hY rfl inX8 2 (by decide) g1169 rfl dX8_list_75 ?_
                    refine lv_iconst (v := nI 0) hx hb dX8_list_78 (by decide) ?_
                    refine q_put C hP hS faw rfl inX7 tyX7 tyX7_ok nmX7 3 (by decide) g1143 rfl rfl rfl (Nat.le_of_ble_eq_true rfl) dX8_list_79 (fun H locs hP hS => ?_)
                    replace hP : qP D N0 (qs hv6 (ra 28) (.inr (7, [.ref (rk 28), .ref (rv 28), .int (nI 0), .int (nI 0), .int smw, .int dpw, .int rww]))) H := hP
                    obtain ⟨hv7, ehv7⟩ : ∃ z : qH, z = qs hv6 (ra 28) (.inr (7, [.ref (rk 28), .ref (rv 28), .int (nI 0), .int (nI 0), .int smw, .int dpw, .int rww])) := ⟨_, rfl⟩
                    rw [← ehv7] at hP
                    have khv7 : ∀ b o, b ≠ (ra 28) → hv6 b = some o → hv7 b = some o := by rw [ehv7]; exact fun b o nb hb => (qs_ne nb).trans hb
                    replace hY := khv7 _ _ (fun q => by have z9 := hY; rw [q] at z9; have := z9.symm.trans faw; first | cases this | simp at this) hY
                    replace hms := khv7 _ _ (fun q => by have z9 := hms; rw [q] at z9; have := z9.symm.trans faw; first | cases this | simp at this) hms
                    replace hmb := khv7 _ _ (fun q => by have z9 := hmb; rw [q] at z9; have := z9.symm.trans faw; first | cases this | simp at this) hmb
                    replace fkw := khv7 _ _ (fun q => by have z9 := fkw; rw [q] at z9; have := z9.symm.trans faw; first | cases this | simp at this) fkw
                    replace fvw := khv7 _ _ (fun q => by have z9 := fvw; rw [q] at z9; have := z9.symm.trans faw; first | cases this | simp at this) fvw
                    replace faj := khv7 _ _ apj.1.1 faj
                    replace fkj := khv7 _ _ apj.2.1.1 fkj
                    replace fvj := khv7 _ _ apj.2.2.1 fvj
                    replace faw : hv7 (ra 28) = some (.inr (7, [.ref (rk 28), .ref (rv 28), .int (nI 0), .int (nI 0), .int smw, .int dpw, .int rww])) := by rw [ehv7]; exact qs_self
                    clear ehv7
                    replace fr := fun b o hb n1 n2 => khv7 b o n2.1 (fr b o hb n1 n2)
                    refine lv_aload_n hx hb dX8_list_82 rfl (lv_at hl 1 rfl) ?_
                    refine q_get C hP hY rfl inX8 2 (by decide) g1169 rfl dX8_list_83 ?_
                    refine lv_iconst (v := nI 0) hx hb dX8_list_86 (by decide) ?_
                    refine q_put C hP hS faw rfl inX7 tyX7 tyX7_ok nmX7 4 (by decide) g1144 rfl rfl rfl (Nat.le_of_ble_eq_true rfl) dX8_list_87 (fun H locs hP hS => ?_)
                    replace hP : qP D N0 (qs hv7 (ra 28) (.inr (7, [.ref (rk 28), .ref (rv 28), .int (nI 0), .int (nI 0), .int (nI 0), .int dpw, .int rww]))) H := hP
                    obtain ⟨hv8, ehv8⟩ : ∃ z : qH, z = qs hv7 (ra 28) (.inr (7, [.ref (rk 28), .ref (rv 28), .int (nI 0), .int (nI 0), .int (nI 0), .int dpw, .int rww])) := ⟨_, rfl⟩
                    rw [← ehv8] at hP
                    have khv8 : ∀ b o, b ≠ (ra 28) → hv7 b = some o → hv8 b = some o := by rw [ehv8]; exact fun b o nb hb => (qs_ne nb).trans hb
                    replace hY := khv8 _ _ (fun q => by have z9 := hY; rw [q] at z9; have := z9.symm.trans faw; first | cases this | simp at this) hY
                    replace hms := khv8 _ _ (fun q => by have z9 := hms; rw [q] at z9; have := z9.symm.trans faw; first | cases this | simp at this) hms
                    replace hmb := khv8 _ _ (fun q => by have z9 := hmb; rw [q] at z9; have := z9.symm.trans faw; first | cases this | simp at this) hmb
                    replace fkw := khv8 _ _ (fun q => by have z9 := fkw; rw [q] at z9; have := z9.symm.trans faw; first | cases this | simp at this) fkw
                    replace fvw := khv8 _ _ (fun q => by have z9 := fvw; rw [q] at z9; have := z9.symm.trans faw; first | cases this | simp at this) fvw
                    replace faj := khv8 _ _ apj.1.1 faj
                    replace fkj := khv8 _ _ apj.2.1.1 fkj
                    replace fvj := khv8 _ _ apj.2.2.1 fvj
                    replace faw : hv8 (ra 28) = some (.inr (7, [.ref (rk 28), .ref (rv 28), .int (nI 0), .int (nI 0), .int (nI 0), .int dpw, .int rww])) := by rw [ehv8]; exact qs_self
                    clear ehv8
                    replace fr := fun b o hb n1 n2 => khv8 b o n2.1 (fr b o hb n1 n2)
                    refine lv_aload_n hx hb dX8_list_90 rfl (lv_at hl 1 rfl) ?_
                    refine q_get C hP hY rfl inX8 2 (by decide) g1169 rfl dX8_list_91 ?_
                    refine lv_iconst (v := nI 0) hx hb dX8_list_94 (by decide) ?_
                    refine q_put C hP hS faw rfl inX7 tyX7 tyX7_ok nmX7 5 (by decide) g1145 rfl rfl rfl (Nat.le_of_ble_eq_true rfl) dX8_list_95 (fun H locs hP hS => ?_)
                    replace hP : qP D N0 (qs hv8 (ra 28) (.inr (7, [.ref (rk 28), .ref (rv 28), .int (nI 0), .int (nI 0), .int (nI 0), .int (nI 0), .int rww]))) H := hP
                    obtain ⟨hv9, ehv9⟩ : ∃ z : qH, z = qs hv8 (ra 28) (.inr (7, [.ref (rk 28), .ref (rv 28), .int (nI 0), .int (nI 0), .int (nI 0), .int (nI 0), .int rww])) := ⟨_, rfl⟩
                    rw [← ehv9] at hP
                    have khv9 : ∀ b o, b ≠ (ra 28) → hv8 b = some o → hv9 b = some o := by rw [ehv9]; exact fun b o nb hb => (qs_ne nb).trans hb
                    replace hY := khv9 _ _ (fun q => by have z9 := hY; rw [q] at z9; have := z9.symm.trans faw; first | cases this | simp at this) hY
                    replace hms := khv9 _ _ (fun q => by have z9 := hms; rw [q] at z9; have := z9.symm.trans faw; first | cases this | simp at this) hms
                    replace hmb := khv9 _ _ (fun q => by have z9 := hmb; rw [q] at z9; have := z9.symm.trans faw; first | cases this | simp at this) hmb
                    replace fkw := khv9 _ _ (fun q => by have z9 := fkw; rw [q] at z9; have := z9.symm.trans faw; first | cases this | simp at this) fkw
                    replace fvw := khv9 _ _ (fun q => by have z9 := fvw; rw [q] at z9; have := z9.symm.trans faw; first | cases this | simp at this) fvw
                    replace faj := khv9 _ _ apj.1.1 faj
                    replace fkj := khv9 _ _ apj.2.1.1 fkj
                    replace fvj := khv9 _ _ apj.2.2.1 fvj
                    replace faw : hv9 (ra 28) = some (.inr (7, [.ref (rk 28), .ref (rv 28), .int (nI 0), .int (nI 0), .int (nI 0), .int (nI 0), .int rww])) := by rw [ehv9]; exact qs_self
                    clear ehv9
                    replace fr := fun b o hb n1 n2 => khv9 b o n2.1 (fr b o hb n1 n2)
                    refine lv_aload_n hx hb dX8_list_98 rfl (lv_at hl 1 rfl) ?_
                    refine lv_iconst (v := nI 0) hx hb dX8_list_99 (by decide) ?_
                    refine q_put C hP hS hY rfl inX8 tyX8 tyX8_ok nmX8 10 (by decide) g1177 rfl rfl rfl (Nat.le_of_ble_eq_true rfl) dX8_list_100 (fun H locs hP hS => ?_)
                    replace hP : qP D N0 (qs hv9 y (.inr (8, [.ref ms, .ref mb, .ref (ra 28), .int gr, .int 0, .int ca, .int mv, .ref od, .ref pt, .int ct, .int (nI 0), .ref fi, .ref re, .int cs, .ref rc, .ref rs, .ref so, .ref ot, .ref cn, .ref la, .int ce, .ref ro, .int rn]))) H := hP
                    obtain ⟨hv10, ehv10⟩ : ∃ z : qH, z = qs hv9 y (.inr (8, [.ref ms, .ref mb, .ref (ra 28), .int gr, .int 0, .int ca, .int mv, .ref od, .ref pt, .int ct, .int (nI 0), .ref fi, .ref re, .int cs, .ref rc, .ref rs, .ref so, .ref ot, .ref cn, .ref la, .int ce, .ref ro, .int rn])) := ⟨_, rfl⟩
                    rw [← ehv10] at hP
                    have khv10 : ∀ b o, b ≠ y → hv9 b = some o → hv10 b = some o := by rw [ehv10]; exact fun b o nb hb => (qs_ne nb).trans hb
                    replace hms := khv10 _ _ (fun q => by subst q; have := hms.symm.trans hY; first | cases this | simp at this) hms
                    replace hmb := khv10 _ _ (fun q => by subst q; have := hmb.symm.trans hY; first | cases this | simp at this) hmb
                    replace faw := khv10 _ _ (fun q => by have z9 := faw; rw [q] at z9; have := z9.symm.trans hY; first | cases this | simp at this) faw
                    replace fkw := khv10 _ _ (fun q => by have z9 := fkw; rw [q] at z9; have := z9.symm.trans hY; first | cases this | simp at this) fkw
                    replace fvw := khv10 _ _ (fun q => by have z9 := fvw; rw [q] at z9; have := z9.symm.trans hY; first | cases this | simp at this) fvw
                    replace faj := khv10 _ _ (fun q => by have z9 := faj; rw [q] at z9; have := z9.symm.trans hY; first | cases this | simp at this) faj
                    replace fkj := khv10 _ _ (fun q => by have z9 := fkj; rw [q] at z9; have := z9.symm.trans hY; first | cases this | simp at this) fkj
                    replace fvj := khv10 _ _ (fun q => by have z9 := fvj; rw [q] at z9; have := z9.symm.trans hY; first | cases this | simp at this) fvj
                    replace hY : hv10 y = some (.inr (8, [.ref ms, .ref mb, .ref (ra 28), .int gr, .int 0, .int ca, .int mv, .ref od, .ref pt, .int ct, .int (nI 0), .ref fi, .ref re, .int cs, .ref rc, .ref rs, .ref so, .ref ot, .ref cn, .ref la, .int ce, .ref ro, .int rn])) := by rw [ehv10]; exact qs_self
                    clear ehv10
                    replace fr := fun b o hb n1 n2 => khv10 b o n1 (fr b o hb n1 n2)
                    have hs8 := hSt j (by omega) (bHo_64 (hI j (by omega)).2.2 hoj)
                    have hV8 : qWv Bd sl Rn dp ((ms, mb, ra 28, od, pt, ro, gr, 0, ca, mv, ct, 0, rn), a, k) := hV.obj rfl
                    have eX9 : X = xLfin S i q ([] ++ (xLst F (q - 0) ((ms, mb, ra 28, od, pt, ro, gr, 0, ca, mv, ct, 0, rn), a, k) (S j).2.2.1).1, (xLst F (q - 0) ((ms, mb, ra 28, od, pt, ro, gr, 0, ca, mv, ct, 0, rn), a, k) (S j).2.2.1).2) := by rw [← hX]; unfold xs_list; rw [if_neg (by rw [ebi, ebj, ecq]; exact fun z => z.elim (fun z => by cases z) (fun z => z.elim (fun z => by cases z) (fun z => z.elim c16 (fun z => by omega)))), ecj, if_neg (by rw [hoj]; decide), eci, ecq]; rfl
                    obtain ⟨m8, f8⟩ := hM.fin0 hY0 (h' := hv10) ⟨hRw.1, hRw.2.1, hRw.2.2.1, faw, fkw, fvw⟩ fr
                    obtain ⟨q8, r8⟩ := hQ.rowM (o' := (ms, mb, ra 28, od, pt, ro, gr, 0, ca, mv, ct, 0, rn)) hY0 hY m8 f8 ⟨rfl, rfl, rfl, rfl, rfl, rfl⟩
                    have hw8 : qRw cy hv10 (ra 28) (rk 28) (rv 28) (nI 0) (nI 0) (nI 0) (nI 0) rww fw gw := ⟨hRw.1, hRw.2.1, hRw.2.2.1, faw, fkw, fvw⟩
                    refine (?_ : ∀ (u nW : Nat) (H : Heap) (locs : List Loc) (ls : Array Slot) (hh : qH) (A9 : Nat → Prop) (x9 y9 : Int32) (a9 : qWd) (k9 : qKd) (dp9 : Nat → Nat) (s9 c1 c2 : Nat) (fW : Nat → Int64) (L9 : List Int64), q - nW < u → lv_has ls 5 [(4, .int (nI s9)), (3, .int (nI q)), (1, .int (nI i)), (0, .ref y)] → nW ≤ q → qP D N0 hh H → va_S (qA N0) s.heap H locs → qRF cy hh y A9 ra rk rv pa (ms, mb, ra 28, od, pt, ro, gr, 0, x9, y9, ct, 0, rn) a9 k9 S Rn R ad → qFR h hh y od ra rk rv pa A A9 → qRw cy hh (ra 28) (rk 28) (rv 28) (nI 0) (nI nW) (nI 0) (nI 0) rww fW gw → qWv Bd sl Rn dp9 ((ms, mb, ra 28, od, pt, ro, gr, 0, x9, y9, ct, 0, rn), a9, k9) → s9 < a9.1 ∧ dp9 s9 ≤ dc → X = xLfin S i q (L9 ++ (xLst F (q - nW) ((ms, mb, ra 28, od, pt, ro, gr, 0, x9, y9, ct, 0, rn), a9, k9) s9).1, (xLst F (q - nW) ((ms, mb, ra 28, od, pt, ro, gr, 0, x9, y9, ct, 0, rn), a9, k9) s9).2) → qLs (nI 0) fW gw nW = L9.map (fun v => (v, 0)) → c1 + P0 = qP1 a9 ∧ c2 + Q0 = qP2 a9 → W p l e _ s m _ below meth c H locs c1 c2 _ (F0 m 103 ls [])) (q + 1) 0 _ _ ls hv10 A ca mv a k dp (S j).2.2.1 0 0 fw [] (by omega) (lv_sub hl [0, 4, 2, 1] rfl) (by omega) hP hS q8 r8 hw8 hV8 hs8 eX9 rfl ⟨by omega, by omega⟩
                    clear hl hP hS q8 r8 hw8 hV8 hs8 eX9 hX hV hQ hM hY0 hY hms hmb hrs hRw fr faw fkw fvw m8 f8 hSt
                    clear faj fkj fvj hRj
                    intro u
                    induction u with
                    | zero => intro nW _ _ _ _ _ _ _ _ _ _ _ _ _ _ _ h; exact absurd h (Nat.not_lt_zero _)
                    | succ u ihu =>
                      intro nW H locs ls hh A9 x9 y9 a9 k9 dp9 s9 c1 c2 fW L9 htu hl hnW hP hS hQ hR9 hRw hV9 hss hXX lw hcc
                      obtain ⟨m0, em0, hm0, hbd0⟩ := id hV9.m
                      replace em0 : y9 = nI m0 := em0
                      subst em0
                      have ecm : (nI m0).toNatClampNeg = m0 := nI_clamp (by omega)
                      dsimp only at hbd0
                      have hL8 := (hV9.L hB).1
                      have hLn := (hV9.L hB).2
                      have hp9 : 1 ≤ a9.1 ∧ a9.1 ≤ a9.2.1 := hV9.p
                      have hmX : qP1 a9 ≤ qP1 X.2.2.2.2.1 ∧ qP2 a9 ≤ qP2 X.2.2.2.2.1 := by rw [hXX, xLfin_a]; exact qStp.P hV9 (xLst_stp hG hdc (q - nW) s9 dp9 ((ms, mb, ra 28, od, pt, ro, gr, 0, x9, nI m0, ct, 0, rn), a9, k9) hV9 rfl hss)
                      have hlL : L9.length = nW := by have z := congrArg List.length lw; rw [qLs_len, List.length_map] at z; exact z.symm
                      obtain ⟨fj, rj, rcj, rsj, soj, otj, cnj, laj, hY⟩ := hQ.1.yo2
                      unfold qYo at hY
                      dsimp only at hY
                      have hY0 := hY
                      have hM : qMR cy hh ms mb (ra 28) ra rk rv S := hQ.2.2.1
                      have hms := hM.1
                      have hmb := hM.2.1
                      have hrs := hM.2.2.2.2.1
                      have faw := hRw.2.2.2.1
                      have fkw := hRw.2.2.2.2.1
                      have fvw := hRw.2.2.2.2.2
                      unfold qRb at faw
                      unfold qJr at fkw fvw
                      have fr : ∀ b o, hh b = some o → b ≠ y → qOf (ra 28) (rk 28) (rv 28) b → hh b = some o := fun b o hb _ _ => hb
                      replace hY : hh y = some (.inr (8, [.ref ms, .ref mb, .ref (ra 28), .int gr, .int 0, .int x9, .int (nI m0), .ref od, .ref pt, .int ct, .int (nI 0), .ref fj, .ref rj, .int (nI a9.1), .ref rcj, .ref rsj, .ref soj, .ref otj, .ref cnj, .ref laj, .int (nI k9.1), .ref ro, .int rn])) := hY
                      replace hY0 := hY
                      refine lv_iload hx hb dX8_list_103 (lv_at hl 0 rfl) ?_
                      refine lv_if_le (tgt := 188) hx hb dX8_list_105 (by decide) (fun c105 => ?_) (fun c105 => ?_)
                      · replace c105 : s9 ≤ 0 := (nI_leI (a := s9) (b := 0) (by omega) (by omega)).mp c105
                        rw [xLst_nil (by omega), List.append_nil] at hXX
                        refine lv_aload_n hx hb dX8_list_188 rfl (lv_at hl 3 rfl) ?_
                        refine lv_aload_n hx hb dX8_list_189 rfl (lv_at hl 3 rfl) ?_
                        refine q_get C hP hY rfl inX8 10 (by decide) g1177 rfl dX8_list_190 ?_
                        refine lv_iconst (v := nI 1) hx hb dX8_list_193 (by decide) ?_
                        refine lv_icmp_eq (tgt := 201) hx hb dX8_list_194 (by decide) (fun c194 => ?_) (fun c194 => ?_)
                        · replace c194 : 0 = 1 := (nI_eq (a := 0) (b := 1) (by omega) (by omega)).mp c194
                          exfalso; omega
                        · replace c194 : ¬ 0 = 1 := fun zq => c194 ((nI_eq (a := 0) (b := 1) (by omega) (by omega)).mpr zq)
                          refine lv_iconst (v := nI 1) hx hb dX8_list_197 (by decide) ?_
                          refine lv_goto (tgt := 202) hx hb dX8_list_198 (by decide) ?_
                          refine lv_iconst (v := nI 3) hx hb dX8_list_202 (by decide) ?_
                          refine q_callV (rest := []) C (c_X8_good1 l D cy N0 hh y ms mb (ra 28) od pt fj rj rcj rsj soj otj cnj laj ro gr 0 x9 (nI m0) ct (nI 0) (nI a9.1) (nI k9.1) rn (nI 3) hY) kX8_good g1249 g1251 rfl gp41 g4 hP hS hY (by first | decide | omega) hl.1 rfl (by decide) (by first | decide | omega) dX8_list_203 (fun q ce E h' H1 locs1 hE => hE.elim) (fun v hh9 H locs hq hP hS => ?_)
                          obtain ⟨rfl, rfl⟩ := hq
                          replace hP : qP D N0 (qs hh y (.inr (8, [.ref ms, .ref mb, .ref (ra 28), .int gr, .int 0, .int x9, .int (nI m0), .ref od, .ref pt, .int ct, .int (nI 0), .ref fj, .ref rj, .int (nI a9.1), .ref rcj, .ref rsj, .ref soj, .ref otj, .ref cnj, .ref laj, .int (nI k9.1), .ref ro, .int rn]))) H := hP
                          obtain ⟨hv11, ehv11⟩ : ∃ z : qH, z = qs hh y (.inr (8, [.ref ms, .ref mb, .ref (ra 28), .int gr, .int 0, .int x9, .int (nI m0), .ref od, .ref pt, .int ct, .int (nI 0), .ref fj, .ref rj, .int (nI a9.1), .ref rcj, .ref rsj, .ref soj, .ref otj, .ref cnj, .ref laj, .int (nI k9.1), .ref ro, .int rn])) := ⟨_, rfl⟩
                          rw [← ehv11] at hP
                          have khv11 : ∀ b o, b ≠ y → hh b = some o → hv11 b = some o := by rw [ehv11]; exact fun b o nb hb => (qs_ne nb).trans hb
                          replace hms := khv11 _ _ (fun q => by subst q; have := hms.symm.trans hY; first | cases this | simp at this) hms
                          replace hmb := khv11 _ _ (fun q => by subst q; have := hmb.symm.trans hY; first | cases this | simp at this) hmb
                          replace faw := khv11 _ _ (fun q => by have z9 := faw; rw [q] at z9; have := z9.symm.trans hY; first | cases this | simp at this) faw
                          replace fkw := khv11 _ _ (fun q => by have z9 := fkw; rw [q] at z9; have := z9.symm.trans hY; first | cases this | simp at this) fkw
                          replace fvw := khv11 _ _ (fun q => by have z9 := fvw; rw [q] at z9; have := z9.symm.trans hY; first | cases this | simp at this) fvw
                          replace hY : hv11 y = some (.inr (8, [.ref ms, .ref mb, .ref (ra 28), .int gr, .int 0, .int x9, .int (nI m0), .ref od, .ref pt, .int ct, .int (nI 0), .ref fj, .ref rj, .int (nI a9.1), .ref rcj, .ref rsj, .ref soj, .ref otj, .ref cnj, .ref laj, .int (nI k9.1), .ref ro, .int rn])) := by rw [ehv11]; exact qs_self
                          clear ehv11
                          replace fr := fun b o hb n1 n2 => khv11 b o n1 (fr b o hb n1 n2)
                          refine lv_if_eq (tgt := 238) hx hb dX8_list_206 (by decide) (fun c206 => ?_) (fun c206 => ?_)
                          · replace c206 : 1 = 0 := (nI_eq (a := 1) (b := 0) (by omega) (by omega)).mp c206
                            exfalso; omega
                          · replace c206 : ¬ 1 = 0 := fun zq => c206 ((nI_eq (a := 1) (b := 0) (by omega) (by omega)).mpr zq)
                            refine lv_aload_n hx hb dX8_list_209 rfl (lv_at hl 3 rfl) ?_
                            refine lv_aload_n hx hb dX8_list_210 rfl (lv_at hl 3 rfl) ?_
                            refine q_get C hP hY rfl inX8 10 (by decide) g1177 rfl dX8_list_211 ?_
                            refine lv_if_ne (tgt := 230) hx hb dX8_list_214 (by decide) (fun c214 => ?_) (fun c214 => ?_)
                            · replace c214 : ¬ 0 = 0 := fun zq => c214 ((nI_eq (a := 0) (b := 0) (by omega) (by omega)).mpr zq)
                              exfalso; omega
                            · replace c214 : 0 = 0 := (nI_eq (a := 0) (b := 0) (by omega) (by omega)).mp c214
                              refine lv_aload_n hx hb dX8_list_217 rfl (lv_at hl 3 rfl) ?_
                              refine lv_iconst (v := nI 0) hx hb dX8_list_218 (by decide) ?_
                              refine lv_iload_n hx hb dX8_list_219 rfl (lv_at hl 1 rfl) ?_
                              refine q_callV (rest := [.ref y]) C (c_X8_fits l D cy N0 hv11 y m0 0 q _ hY rfl (by omega) (by omega)) kX8_fits g1413 g1415 rfl gp61 g4 hP hS hY (by first | decide | omega) hl.1 rfl (by simp [q_catrf, q_cati, q_catl, q_cata, q_catn]) (by first | decide | omega) dX8_list_220 (fun q ce E h' H1 locs1 hE => hE.elim) (fun v hh10 H locs hq hP hS => ?_)
                              obtain ⟨rfl, rfl⟩ := hq
                              by_cases cf : 0 ≤ 1000 ∧ m0 + q ≤ 20000
                              · rw [if_pos cf]
                                refine lv_if_eq (tgt := 230) hx hb dX8_list_223 (by decide) (fun c223 => ?_) (fun c223 => ?_)
                                · replace c223 : 1 = 0 := (nI_eq (a := 1) (b := 0) (by omega) (by omega)).mp c223
                                  exfalso; omega
                                · replace c223 : ¬ 1 = 0 := fun zq => c223 ((nI_eq (a := 1) (b := 0) (by omega) (by omega)).mpr zq)
                                  refine lv_iconst (v := nI 1) hx hb dX8_list_226 (by decide) ?_
                                  refine lv_goto (tgt := 231) hx hb dX8_list_227 (by decide) ?_
                                  refine lv_iconst (v := nI 4) hx hb dX8_list_231 (by decide) ?_
                                  refine q_callV (rest := []) C (c_X8_good1 l D cy N0 hv11 y ms mb (ra 28) od pt fj rj rcj rsj soj otj cnj laj ro gr 0 x9 (nI m0) ct (nI 0) (nI a9.1) (nI k9.1) rn (nI 4) hY) kX8_good g1249 g1251 rfl gp41 g4 hP hS hY (by first | decide | omega) hl.1 rfl (by decide) (by first | decide | omega) dX8_list_232 (fun q ce E h' H1 locs1 hE => hE.elim) (fun v hh11 H locs hq hP hS => ?_)
                                  obtain ⟨rfl, rfl⟩ := hq
                                  replace hP : qP D N0 (qs hv11 y (.inr (8, [.ref ms, .ref mb, .ref (ra 28), .int gr, .int 0, .int x9, .int (nI m0), .ref od, .ref pt, .int ct, .int (nI 0), .ref fj, .ref rj, .int (nI a9.1), .ref rcj, .ref rsj, .ref soj, .ref otj, .ref cnj, .ref laj, .int (nI k9.1), .ref ro, .int rn]))) H := hP
                                  obtain ⟨hv12, ehv12⟩ : ∃ z : qH, z = qs hv11 y (.inr (8, [.ref ms, .ref mb, .ref (ra 28), .int gr, .int 0, .int x9, .int (nI m0), .ref od, .ref pt, .int ct, .int (nI 0), .ref fj, .ref rj, .int (nI a9.1), .ref rcj, .ref rsj, .ref soj, .ref otj, .ref cnj, .ref laj, .int (nI k9.1), .ref ro, .int rn])) := ⟨_, rfl⟩
                                  rw [← ehv12] at hP
                                  have khv12 : ∀ b o, b ≠ y → hv11 b = some o → hv12 b = some o := by rw [ehv12]; exact fun b o nb hb => (qs_ne nb).trans hb
                                  replace hms := khv12 _ _ (fun q => by subst q; have := hms.symm.trans hY; first | cases this | simp at this) hms
                                  replace hmb := khv12 _ _ (fun q => by subst q; have := hmb.symm.trans hY; first | cases this | simp at this) hmb
                                  replace faw := khv12 _ _ (fun q => by have z9 := faw; rw [q] at z9; have := z9.symm.trans hY; first | cases this | simp at this) faw
                                  replace fkw := khv12 _ _ (fun q => by have z9 := fkw; rw [q] at z9; have := z9.symm.trans hY; first | cases this | simp at this) fkw
                                  replace fvw := khv12 _ _ (fun q => by have z9 := fvw; rw [q] at z9; have := z9.symm.trans hY; first | cases this | simp at this) fvw
                                  replace hY : hv12 y = some (.inr (8, [.ref ms, .ref mb, .ref (ra 28), .int gr, .int 0, .int x9, .int (nI m0), .ref od, .ref pt, .int ct, .int (nI 0), .ref fj, .ref rj, .int (nI a9.1), .ref rcj, .ref rsj, .ref soj, .ref otj, .ref cnj, .ref laj, .int (nI k9.1), .ref ro, .int rn])) := by rw [ehv12]; exact qs_self
                                  clear ehv12
                                  replace fr := fun b o hb n1 n2 => khv12 b o n1 (fr b o hb n1 n2)
                                  refine lv_if_ne (tgt := 240) hx hb dX8_list_235 (by decide) (fun c235 => ?_) (fun c235 => ?_)
                                  · replace c235 : ¬ 1 = 0 := fun zq => c235 ((nI_eq (a := 1) (b := 0) (by omega) (by omega)).mpr zq)
                                    refine lv_aload_n hx hb dX8_list_240 rfl (lv_at hl 3 rfl) ?_
                                    refine lv_iload_n hx hb dX8_list_241 rfl (lv_at hl 2 rfl) ?_
                                    refine lv_iload_n hx hb dX8_list_242 rfl (lv_at hl 1 rfl) ?_
                                    obtain ⟨ni, rwi, Fi, Gi, hRi, hni, hLi, hKi⟩ := hrs i (by omega)
                                    have api := hRi.apart hRw (hmd.two (i := i) (j := 28) (by omega) (by omega) (by omega))
                                    replace hRi := hRi.keep2 (fun b o hb ho => fr b o ho (hRi.ney hY0 hb) (hb.elim (fun q => q ▸ api.1) (fun hb => hb.elim (fun q => q ▸ api.2.1) (fun q => q ▸ api.2.2))))
                                    have fai := hRi.2.2.2.1
                                    have fki := hRi.2.2.2.2.1
                                    have fvi := hRi.2.2.2.2.2
                                    unfold qRb at fai
                                    unfold qJr at fki fvi
                                    refine q_callV (rest := []) C (c_X8_done l D cy N0 hv12 y ms mb od pt fj rj rcj rsj soj otj cnj laj ro gr 0 x9 (nI m0) ct (nI 0) (nI a9.1) (nI k9.1) rn ra rk rv i (nI q) (nI 0) (nI 0) (nI 0) rww nW fW gw (S i).1 (nI (S i).2.2.1) (nI (S i).2.2.2) rwi ni Fi Gi hY hms hmd ⟨hRw.1, hRw.2.1, hRw.2.2.1, faw, fkw, fvw⟩ ⟨hRi.1, hRi.2.1, hRi.2.2.1, fai, fki, fvi⟩ (by omega) (by omega)) kX8_done g1293 g1295 rfl gp45 g4 hP hS hY (by first | decide | omega) hl.1 rfl (by decide) (by first | decide | omega) dX8_list_243 (fun q ce E h' H1 locs1 hE => hE.elim) (fun v hh12 H locs hq hP hS => ?_)
                                    obtain ⟨rfl, hY9, hw9, hi9, fr9⟩ := hq
                                    replace fr := fun b o hb n1 n2 n3 => fr9 b o (fr b o hb n1 n2) n1 n2 n3
                                    rw [nI_add] at hY9
                                    obtain ⟨m9, f9⟩ := hM.fin hY0 (i := i) (by omega) (s := (0, (L9.map (fun v => (v, 0))), 0, 0)) ⟨nW, _, _, _, hi9, by omega, by rw [qLs_cp]; exact lw.symm, Or.inl rfl⟩ hw9 fr
                                    have eX : X = (0, nI nW, qU S i (0, (L9.map (fun v => (v, 0))), 0, 0), oMv (ms, mb, ra 28, od, pt, ro, gr, 0, x9, nI m0, ct, 0, rn) (nI (m0 + q)), a9, k9) := by rw [hXX]; unfold xLfin; rw [if_neg (show ¬ oFq (ms, mb, ra 28, od, pt, ro, gr, 0, x9, nI m0, ct, 0, rn) = 1 from (by decide : ¬ (0 : Int32) = 1)), show oMq (ms, mb, ra 28, od, pt, ro, gr, 0, x9, nI m0, ct, 0, rn) = nI m0 from rfl, ecm, if_neg (fun z => z.elim (fun z => z rfl) (fun z => by omega)), nI_add, hlL]
                                    obtain ⟨q9, r9⟩ := hQ.rowM (o' := oCd (oMv (ms, mb, ra 28, od, pt, ro, gr, 0, x9, nI m0, ct, 0, rn) (nI (m0 + q))) 0) hY0 hY9 m9 f9 ⟨rfl, rfl, rfl, rfl, rfl, rfl⟩
                                    exact q_iret C hP hS ⟨by rw [eX], A9, by rw [eX]; exact q9, hR9.tr hQ rfl r9⟩ (by omega) dX8_list_246
                                  · replace c235 : 1 = 0 := (nI_eq (a := 1) (b := 0) (by omega) (by omega)).mp c235
                                    exfalso; omega
                              · rw [if_neg cf]
                                refine lv_if_eq (tgt := 230) hx hb dX8_list_223 (by decide) (fun c223 => ?_) (fun c223 => ?_)
                                · replace c223 : 0 = 0 := (nI_eq (a := 0) (b := 0) (by omega) (by omega)).mp c223
                                  refine lv_iconst (v := nI 0) hx hb dX8_list_230 (by decide) ?_
                                  refine lv_iconst (v := nI 4) hx hb dX8_list_231 (by decide) ?_
                                  refine q_callV (rest := []) C (c_X8_good0 l D cy N0 hv11 y ms mb (ra 28) od pt fj rj rcj rsj soj otj cnj laj ro gr 0 x9 (nI m0) ct (nI 0) (nI a9.1) (nI k9.1) rn (nI 4) hY) kX8_good g1249 g1251 rfl gp41 g4 hP hS hY (by first | decide | omega) hl.1 rfl (by decide) (by first | decide | omega) dX8_list_232 (fun q ce E h' H1 locs1 hE => hE.elim) (fun v hh13 H locs hq hP hS => ?_)
                                  obtain ⟨rfl, rfl⟩ := hq
                                  replace hP : qP D N0 (qs hv11 y (.inr (8, [.ref ms, .ref mb, .ref (ra 28), .int gr, .int (nI 4), .int x9, .int (nI m0), .ref od, .ref pt, .int ct, .int (nI 0), .ref fj, .ref rj, .int (nI a9.1), .ref rcj, .ref rsj, .ref soj, .ref otj, .ref cnj, .ref laj, .int (nI k9.1), .ref ro, .int rn]))) H := hP
                                  obtain ⟨hv13, ehv13⟩ : ∃ z : qH, z = qs hv11 y (.inr (8, [.ref ms, .ref mb, .ref (ra 28), .int gr, .int (nI 4), .int x9, .int (nI m0), .ref od, .ref pt, .int ct, .int (nI 0), .ref fj, .ref rj, .int (nI a9.1), .ref rcj, .ref rsj, .ref soj, .ref otj, .ref cnj, .ref laj, .int (nI k9.1), .ref ro, .int rn])) := ⟨_, rfl⟩
                                  rw [← ehv13] at hP
                                  have khv13 : ∀ b o, b ≠ y → hv11 b = some o → hv13 b = some o := by rw [ehv13]; exact fun b o nb hb => (qs_ne nb).trans hb
                                  replace hms := khv13 _ _ (fun q => by subst q; have := hms.symm.trans hY; first | cases this | simp at this) hms
                                  replace hmb := khv13 _ _ (fun q => by subst q; have := hmb.symm.trans hY; first | cases this | simp at this) hmb
                                  replace faw := khv13 _ _ (fun q => by have z9 := faw; rw [q] at z9; have := z9.symm.trans hY; first | cases this | simp at this) faw
                                  replace fkw := khv13 _ _ (fun q => by have z9 := fkw; rw [q] at z9; have := z9.symm.trans hY; first | cases this | simp at this) fkw
                                  replace fvw := khv13 _ _ (fun q => by have z9 := fvw; rw [q] at z9; have := z9.symm.trans hY; first | cases this | simp at this) fvw
                                  replace hY : hv13 y = some (.inr (8, [.ref ms, .ref mb, .ref (ra 28), .int gr, .int (nI 4), .int x9, .int (nI m0), .ref od, .ref pt, .int ct, .int (nI 0), .ref fj, .ref rj, .int (nI a9.1), .ref rcj, .ref rsj, .ref soj, .ref otj, .ref cnj, .ref laj, .int (nI k9.1), .ref ro, .int rn])) := by rw [ehv13]; exact qs_self
                                  clear ehv13
                                  replace fr := fun b o hb n1 n2 => khv13 b o n1 (fr b o hb n1 n2)
                                  refine lv_if_ne (tgt := 240) hx hb dX8_list_235 (by decide) (fun c235 => ?_) (fun c235 => ?_)
                                  · replace c235 : ¬ 0 = 0 := fun zq => c235 ((nI_eq (a := 0) (b := 0) (by omega) (by omega)).mpr zq)
                                    exfalso; omega
                                  · replace c235 : 0 = 0 := (nI_eq (a := 0) (b := 0) (by omega) (by omega)).mp c235
                                    refine lv_iconst (v := nI 0) hx hb dX8_list_238 (by decide) ?_
                                    obtain ⟨m9, f9⟩ := hM.fin0 hY0 (h' := hv13) ⟨hRw.1, hRw.2.1, hRw.2.2.1, faw, fkw, fvw⟩ fr
                                    have eX : X = (4, 0, S, (ms, mb, ra 28, od, pt, ro, gr, 0, x9, nI m0, ct, 0, rn), a9, k9) := by rw [hXX]; unfold xLfin; rw [if_neg (show ¬ oFq (ms, mb, ra 28, od, pt, ro, gr, 0, x9, nI m0, ct, 0, rn) = 1 from (by decide : ¬ (0 : Int32) = 1)), show oMq (ms, mb, ra 28, od, pt, ro, gr, 0, x9, nI m0, ct, 0, rn) = nI m0 from rfl, ecm, if_pos (Or.inr (by omega))]
                                    obtain ⟨q9, r9⟩ := hQ.rowM (o' := oCd (ms, mb, ra 28, od, pt, ro, gr, 0, x9, nI m0, ct, 0, rn) 4) hY0 hY m9 f9 ⟨rfl, rfl, rfl, rfl, rfl, rfl⟩
                                    exact q_iret C hP hS ⟨by rw [eX]; rfl, A9, by rw [eX]; exact q9, hR9.tr hQ rfl r9⟩ (by omega) dX8_list_239
                                · replace c223 : ¬ 0 = 0 := fun zq => c223 ((nI_eq (a := 0) (b := 0) (by omega) (by omega)).mpr zq)
                                  exfalso; omega
                      · replace c105 : ¬ s9 ≤ 0 := fun zq => c105 ((nI_leI (a := s9) (b := 0) (by omega) (by omega)).mpr zq)
                        refine lv_aload_n hx hb dX8_list_108 rfl (lv_at hl 3 rfl) ?_
                        refine q_get C hP hY rfl inX8 2 (by decide) g1169 rfl dX8_list_109 ?_
                        refine q_get C hP faw rfl inX7 3 (by decide) g1143 rfl dX8_list_112 ?_
                        refine lv_iload_n hx hb dX8_list_115 rfl (lv_at hl 1 rfl) ?_
                        refine lv_icmp_ge (tgt := 188) hx hb dX8_list_116 (by decide) (fun c116 => ?_) (fun c116 => ?_)
                        · replace c116 : q ≤ nW := (nI_leI (a := q) (b := nW) (by omega) (by omega)).mp c116
                          rw [xLst_nil (by omega), List.append_nil] at hXX
                          refine lv_aload_n hx hb dX8_list_188 rfl (lv_at hl 3 rfl) ?_
                          refine lv_aload_n hx hb dX8_list_189 rfl (lv_at hl 3 rfl) ?_
                          refine q_get C hP hY rfl inX8 10 (by decide) g1177 rfl dX8_list_190 ?_
                          refine lv_iconst (v := nI 1) hx hb dX8_list_193 (by decide) ?_
                          refine lv_icmp_eq (tgt := 201) hx hb dX8_list_194 (by decide) (fun c194 => ?_) (fun c194 => ?_)
                          · replace c194 : 0 = 1 := (nI_eq (a := 0) (b := 1) (by omega) (by omega)).mp c194
                            exfalso; omega
                          · replace c194 : ¬ 0 = 1 := fun zq => c194 ((nI_eq (a := 0) (b := 1) (by omega) (by omega)).mpr zq)
                            refine lv_iconst (v := nI 1) hx hb dX8_list_197 (by decide) ?_
                            refine lv_goto (tgt := 202) hx hb dX8_list_198 (by decide) ?_
                            refine lv_iconst (v := nI 3) hx hb dX8_list_202 (by decide) ?_
                            refine q_callV (rest := []) C (c_X8_good1 l D cy N0 hh y ms mb (ra 28) od pt fj rj rcj rsj soj otj cnj laj ro gr 0 x9 (nI m0) ct (nI 0) (nI a9.1) (nI k9.1) rn (nI 3) hY) kX8_good g1249 g1251 rfl gp41 g4 hP hS hY (by first | decide | omega) hl.1 rfl (by decide) (by first | decide | omega) dX8_list_203 (fun q ce E h' H1 locs1 hE => hE.elim) (fun v hh14 H locs hq hP hS => ?_)
                            obtain ⟨rfl, rfl⟩ := hq
                            replace hP : qP D N0 (qs hh y (.inr (8, [.ref ms, .ref mb, .ref (ra 28), .int gr, .int 0, .int x9, .int (nI m0), .ref od, .ref pt, .int ct, .int (nI 0), .ref fj, .ref rj, .int (nI a9.1), .ref rcj, .ref rsj, .ref soj, .ref otj, .ref cnj, .ref laj, .int (nI k9.1), .ref ro, .int rn]))) H := hP
                            obtain ⟨hv14, ehv14⟩ : ∃ z : qH, z = qs hh y (.inr (8, [.ref ms, .ref mb, .ref (ra 28), .int gr, .int 0, .int x9, .int (nI m0), .ref od, .ref pt, .int ct, .int (nI 0), .ref fj, .ref rj, .int (nI a9.1), .ref rcj, .ref rsj, .ref soj, .ref otj, .ref cnj, .ref laj, .int (nI k9.1), .ref ro, .int rn])) := ⟨_, rfl⟩
                            rw [← ehv14] at hP
                            have khv14 : ∀ b o, b ≠ y → hh b = some o → hv14 b = some o := by rw [ehv14]; exact fun b o nb hb => (qs_ne nb).trans hb
                            replace hms := khv14 _ _ (fun q => by subst q; have := hms.symm.trans hY; first | cases this | simp at this) hms
                            replace hmb := khv14 _ _ (fun q => by subst q; have := hmb.symm.trans hY; first | cases this | simp at this) hmb
                            replace faw := khv14 _ _ (fun q => by have z9 := faw; rw [q] at z9; have := z9.symm.trans hY; first | cases this | simp at this) faw
                            replace fkw := khv14 _ _ (fun q => by have z9 := fkw; rw [q] at z9; have := z9.symm.trans hY; first | cases this | simp at this) fkw
                            replace fvw := khv14 _ _ (fun q => by have z9 := fvw; rw [q] at z9; have := z9.symm.trans hY; first | cases this | simp at this) fvw
                            replace hY : hv14 y = some (.inr (8, [.ref ms, .ref mb, .ref (ra 28), .int gr, .int 0, .int x9, .int (nI m0), .ref od, .ref pt, .int ct, .int (nI 0), .ref fj, .ref rj, .int (nI a9.1), .ref rcj, .ref rsj, .ref soj, .ref otj, .ref cnj, .ref laj, .int (nI k9.1), .ref ro, .int rn])) := by rw [ehv14]; exact qs_self
                            clear ehv14
                            replace fr := fun b o hb n1 n2 => khv14 b o n1 (fr b o hb n1 n2)
                            refine lv_if_eq (tgt := 238) hx hb dX8_list_206 (by decide) (fun c206 => ?_) (fun c206 => ?_)
                            · replace c206 : 1 = 0 := (nI_eq (a := 1) (b := 0) (by omega) (by omega)).mp c206
                              exfalso; omega
                            · replace c206 : ¬ 1 = 0 := fun zq => c206 ((nI_eq (a := 1) (b := 0) (by omega) (by omega)).mpr zq)
                              refine lv_aload_n hx hb dX8_list_209 rfl (lv_at hl 3 rfl) ?_
                              refine lv_aload_n hx hb dX8_list_210 rfl (lv_at hl 3 rfl) ?_
                              refine q_get C hP hY rfl inX8 10 (by decide) g1177 rfl dX8_list_211 ?_
                              refine lv_if_ne (tgt := 230) hx hb dX8_list_214 (by decide) (fun c214 => ?_) (fun c214 => ?_)
                              · replace c214 : ¬ 0 = 0 := fun zq => c214 ((nI_eq (a := 0) (b := 0) (by omega) (by omega)).mpr zq)
                                exfalso; omega
                              · replace c214 : 0 = 0 := (nI_eq (a := 0) (b := 0) (by omega) (by omega)).mp c214
                                refine lv_aload_n hx hb dX8_list_217 rfl (lv_at hl 3 rfl) ?_
                                refine lv_iconst (v := nI 0) hx hb dX8_list_218 (by decide) ?_
                                refine lv_iload_n hx hb dX8_list_219 rfl (lv_at hl 1 rfl) ?_
                                refine q_callV (rest := [.ref y]) C (c_X8_fits l D cy N0 hv14 y m0 0 q _ hY rfl (by omega) (by omega)) kX8_fits g1413 g1415 rfl gp61 g4 hP hS hY (by first | decide | omega) hl.1 rfl (by simp [q_catrf, q_cati, q_catl, q_cata, q_catn]) (by first | decide | omega) dX8_list_220 (fun q ce E h' H1 locs1 hE => hE.elim) (fun v hh15 H locs hq hP hS => ?_)
                                obtain ⟨rfl, rfl⟩ := hq
                                by_cases cf : 0 ≤ 1000 ∧ m0 + q ≤ 20000
                                · rw [if_pos cf]
                                  refine lv_if_eq (tgt := 230) hx hb dX8_list_223 (by decide) (fun c223 => ?_) (fun c223 => ?_)
                                  · replace c223 : 1 = 0 := (nI_eq (a := 1) (b := 0) (by omega) (by omega)).mp c223
                                    exfalso; omega
                                  · replace c223 : ¬ 1 = 0 := fun zq => c223 ((nI_eq (a := 1) (b := 0) (by omega) (by omega)).mpr zq)
                                    refine lv_iconst (v := nI 1) hx hb dX8_list_226 (by decide) ?_
                                    refine lv_goto (tgt := 231) hx hb dX8_list_227 (by decide) ?_
                                    refine lv_iconst (v := nI 4) hx hb dX8_list_231 (by decide) ?_
                                    refine q_callV (rest := []) C (c_X8_good1 l D cy N0 hv14 y ms mb (ra 28) od pt fj rj rcj rsj soj otj cnj laj ro gr 0 x9 (nI m0) ct (nI 0) (nI a9.1) (nI k9.1) rn (nI 4) hY) kX8_good g1249 g1251 rfl gp41 g4 hP hS hY (by first | decide | omega) hl.1 rfl (by decide) (by first | decide | omega) dX8_list_232 (fun q ce E h' H1 locs1 hE => hE.elim) (fun v hh16 H locs hq hP hS => ?_)
                                    obtain ⟨rfl, rfl⟩ := hq
                                    replace hP : qP D N0 (qs hv14 y (.inr (8, [.ref ms, .ref mb, .ref (ra 28), .int gr, .int 0, .int x9, .int (nI m0), .ref od, .ref pt, .int ct, .int (nI 0), .ref fj, .ref rj, .int (nI a9.1), .ref rcj, .ref rsj, .ref soj, .ref otj, .ref cnj, .ref laj, .int (nI k9.1), .ref ro, .int rn]))) H := hP
                                    obtain ⟨hv15, ehv15⟩ : ∃ z : qH, z = qs hv14 y (.inr (8, [.ref ms, .ref mb, .ref (ra 28), .int gr, .int 0, .int x9, .int (nI m0), .ref od, .ref pt, .int ct, .int (nI 0), .ref fj, .ref rj, .int (nI a9.1), .ref rcj, .ref rsj, .ref soj, .ref otj, .ref cnj, .ref laj, .int (nI k9.1), .ref ro, .int rn])) := ⟨_, rfl⟩
                                    rw [← ehv15] at hP
                                    have khv15 : ∀ b o, b ≠ y → hv14 b = some o → hv15 b = some o := by rw [ehv15]; exact fun b o nb hb => (qs_ne nb).trans hb
                                    replace hms := khv15 _ _ (fun q => by subst q; have := hms.symm.trans hY; first | cases this | simp at this) hms
                                    replace hmb := khv15 _ _ (fun q => by subst q; have := hmb.symm.trans hY; first | cases this | simp at this) hmb
                                    replace faw := khv15 _ _ (fun q => by have z9 := faw; rw [q] at z9; have := z9.symm.trans hY; first | cases this | simp at this) faw
                                    replace fkw := khv15 _ _ (fun q => by have z9 := fkw; rw [q] at z9; have := z9.symm.trans hY; first | cases this | simp at this) fkw
                                    replace fvw := khv15 _ _ (fun q => by have z9 := fvw; rw [q] at z9; have := z9.symm.trans hY; first | cases this | simp at this) fvw
                                    replace hY : hv15 y = some (.inr (8, [.ref ms, .ref mb, .ref (ra 28), .int gr, .int 0, .int x9, .int (nI m0), .ref od, .ref pt, .int ct, .int (nI 0), .ref fj, .ref rj, .int (nI a9.1), .ref rcj, .ref rsj, .ref soj, .ref otj, .ref cnj, .ref laj, .int (nI k9.1), .ref ro, .int rn])) := by rw [ehv15]; exact qs_self
                                    clear ehv15
                                    replace fr := fun b o hb n1 n2 => khv15 b o n1 (fr b o hb n1 n2)
                                    refine lv_if_ne (tgt := 240) hx hb dX8_list_235 (by decide) (fun c235 => ?_) (fun c235 => ?_)
                                    · replace c235 : ¬ 1 = 0 := fun zq => c235 ((nI_eq (a := 1) (b := 0) (by omega) (by omega)).mpr zq)
                                      refine lv_aload_n hx hb dX8_list_240 rfl (lv_at hl 3 rfl) ?_
                                      refine lv_iload_n hx hb dX8_list_241 rfl (lv_at hl 2 rfl) ?_
                                      refine lv_iload_n hx hb dX8_list_242 rfl (lv_at hl 1 rfl) ?_
                                      obtain ⟨ni, rwi, Fi, Gi, hRi, hni, hLi, hKi⟩ := hrs i (by omega)
                                      have api := hRi.apart hRw (hmd.two (i := i) (j := 28) (by omega) (by omega) (by omega))
                                      replace hRi := hRi.keep2 (fun b o hb ho => fr b o ho (hRi.ney hY0 hb) (hb.elim (fun q => q ▸ api.1) (fun hb => hb.elim (fun q => q ▸ api.2.1) (fun q => q ▸ api.2.2))))
                                      have fai := hRi.2.2.2.1
                                      have fki := hRi.2.2.2.2.1
                                      have fvi := hRi.2.2.2.2.2
                                      unfold qRb at fai
                                      unfold qJr at fki fvi
                                      refine q_callV (rest := []) C (c_X8_done l D cy N0 hv15 y ms mb od pt fj rj rcj rsj soj otj cnj laj ro gr 0 x9 (nI m0) ct (nI 0) (nI a9.1) (nI k9.1) rn ra rk rv i (nI q) (nI 0) (nI 0) (nI 0) rww nW fW gw (S i).1 (nI (S i).2.2.1) (nI (S i).2.2.2) rwi ni Fi Gi hY hms hmd ⟨hRw.1, hRw.2.1, hRw.2.2.1, faw, fkw, fvw⟩ ⟨hRi.1, hRi.2.1, hRi.2.2.1, fai, fki, fvi⟩ (by omega) (by omega)) kX8_done g1293 g1295 rfl gp45 g4 hP hS hY (by first | decide | omega) hl.1 rfl (by decide) (by first | decide | omega) dX8_list_243 (fun q ce E h' H1 locs1 hE => hE.elim) (fun v hh17 H locs hq hP hS => ?_)
                                      obtain ⟨rfl, hY9, hw9, hi9, fr9⟩ := hq
                                      replace fr := fun b o hb n1 n2 n3 => fr9 b o (fr b o hb n1 n2) n1 n2 n3
                                      rw [nI_add] at hY9
                                      obtain ⟨m9, f9⟩ := hM.fin hY0 (i := i) (by omega) (s := (0, (L9.map (fun v => (v, 0))), 0, 0)) ⟨nW, _, _, _, hi9, by omega, by rw [qLs_cp]; exact lw.symm, Or.inl rfl⟩ hw9 fr
                                      have eX : X = (0, nI nW, qU S i (0, (L9.map (fun v => (v, 0))), 0, 0), oMv (ms, mb, ra 28, od, pt, ro, gr, 0, x9, nI m0, ct, 0, rn) (nI (m0 + q)), a9, k9) := by rw [hXX]; unfold xLfin; rw [if_neg (show ¬ oFq (ms, mb, ra 28, od, pt, ro, gr, 0, x9, nI m0, ct, 0, rn) = 1 from (by decide : ¬ (0 : Int32) = 1)), show oMq (ms, mb, ra 28, od, pt, ro, gr, 0, x9, nI m0, ct, 0, rn) = nI m0 from rfl, ecm, if_neg (fun z => z.elim (fun z => z rfl) (fun z => by omega)), nI_add, hlL]
                                      obtain ⟨q9, r9⟩ := hQ.rowM (o' := oCd (oMv (ms, mb, ra 28, od, pt, ro, gr, 0, x9, nI m0, ct, 0, rn) (nI (m0 + q))) 0) hY0 hY9 m9 f9 ⟨rfl, rfl, rfl, rfl, rfl, rfl⟩
                                      exact q_iret C hP hS ⟨by rw [eX], A9, by rw [eX]; exact q9, hR9.tr hQ rfl r9⟩ (by omega) dX8_list_246
                                    · replace c235 : 1 = 0 := (nI_eq (a := 1) (b := 0) (by omega) (by omega)).mp c235
                                      exfalso; omega
                                · rw [if_neg cf]
                                  refine lv_if_eq (tgt := 230) hx hb dX8_list_223 (by decide) (fun c223 => ?_) (fun c223 => ?_)
                                  · replace c223 : 0 = 0 := (nI_eq (a := 0) (b := 0) (by omega) (by omega)).mp c223
                                    refine lv_iconst (v := nI 0) hx hb dX8_list_230 (by decide) ?_
                                    refine lv_iconst (v := nI 4) hx hb dX8_list_231 (by decide) ?_
                                    refine q_callV (rest := []) C (c_X8_good0 l D cy N0 hv14 y ms mb (ra 28) od pt fj rj rcj rsj soj otj cnj laj ro gr 0 x9 (nI m0) ct (nI 0) (nI a9.1) (nI k9.1) rn (nI 4) hY) kX8_good g1249 g1251 rfl gp41 g4 hP hS hY (by first | decide | omega) hl.1 rfl (by decide) (by first | decide | omega) dX8_list_232 (fun q ce E h' H1 locs1 hE => hE.elim) (fun v hh18 H locs hq hP hS => ?_)
                                    obtain ⟨rfl, rfl⟩ := hq
                                    replace hP : qP D N0 (qs hv14 y (.inr (8, [.ref ms, .ref mb, .ref (ra 28), .int gr, .int (nI 4), .int x9, .int (nI m0), .ref od, .ref pt, .int ct, .int (nI 0), .ref fj, .ref rj, .int (nI a9.1), .ref rcj, .ref rsj, .ref soj, .ref otj, .ref cnj, .ref laj, .int (nI k9.1), .ref ro, .int rn]))) H := hP
                                    obtain ⟨hv16, ehv16⟩ : ∃ z : qH, z = qs hv14 y (.inr (8, [.ref ms, .ref mb, .ref (ra 28), .int gr, .int (nI 4), .int x9, .int (nI m0), .ref od, .ref pt, .int ct, .int (nI 0), .ref fj, .ref rj, .int (nI a9.1), .ref rcj, .ref rsj, .ref soj, .ref otj, .ref cnj, .ref laj, .int (nI k9.1), .ref ro, .int rn])) := ⟨_, rfl⟩
                                    rw [← ehv16] at hP
                                    have khv16 : ∀ b o, b ≠ y → hv14 b = some o → hv16 b = some o := by rw [ehv16]; exact fun b o nb hb => (qs_ne nb).trans hb
                                    replace hms := khv16 _ _ (fun q => by subst q; have := hms.symm.trans hY; first | cases this | simp at this) hms
                                    replace hmb := khv16 _ _ (fun q => by subst q; have := hmb.symm.trans hY; first | cases this | simp at this) hmb
                                    replace faw := khv16 _ _ (fun q => by have z9 := faw; rw [q] at z9; have := z9.symm.trans hY; first | cases this | simp at this) faw
                                    replace fkw := khv16 _ _ (fun q => by have z9 := fkw; rw [q] at z9; have := z9.symm.trans hY; first | cases this | simp at this) fkw
                                    replace fvw := khv16 _ _ (fun q => by have z9 := fvw; rw [q] at z9; have := z9.symm.trans hY; first | cases this | simp at this) fvw
                                    replace hY : hv16 y = some (.inr (8, [.ref ms, .ref mb, .ref (ra 28), .int gr, .int (nI 4), .int x9, .int (nI m0), .ref od, .ref pt, .int ct, .int (nI 0), .ref fj, .ref rj, .int (nI a9.1), .ref rcj, .ref rsj, .ref soj, .ref otj, .ref cnj, .ref laj, .int (nI k9.1), .ref ro, .int rn])) := by rw [ehv16]; exact qs_self
                                    clear ehv16
                                    replace fr := fun b o hb n1 n2 => khv16 b o n1 (fr b o hb n1 n2)
                                    refine lv_if_ne (tgt := 240) hx hb dX8_list_235 (by decide) (fun c235 => ?_) (fun c235 => ?_)
                                    · replace c235 : ¬ 0 = 0 := fun zq => c235 ((nI_eq (a := 0) (b := 0) (by omega) (by omega)).mpr zq)
                                      exfalso; omega
                                    · replace c235 : 0 = 0 := (nI_eq (a := 0) (b := 0) (by omega) (by omega)).mp c235
                                      refine lv_iconst (v := nI 0) hx hb dX8_list_238 (by decide) ?_
                                      obtain ⟨m9, f9⟩ := hM.fin0 hY0 (h' := hv16) ⟨hRw.1, hRw.2.1, hRw.2.2.1, faw, fkw, fvw⟩ fr
                                      have eX : X = (4, 0, S, (ms, mb, ra 28, od, pt, ro, gr, 0, x9, nI m0, ct, 0, rn), a9, k9) := by rw [hXX]; unfold xLfin; rw [if_neg (show ¬ oFq (ms, mb, ra 28, od, pt, ro, gr, 0, x9, nI m0, ct, 0, rn) = 1 from (by decide : ¬ (0 : Int32) = 1)), show oMq (ms, mb, ra 28, od, pt, ro, gr, 0, x9, nI m0, ct, 0, rn) = nI m0 from rfl, ecm, if_pos (Or.inr (by omega))]
                                      obtain ⟨q9, r9⟩ := hQ.rowM (o' := oCd (ms, mb, ra 28, od, pt, ro, gr, 0, x9, nI m0, ct, 0, rn) 4) hY0 hY m9 f9 ⟨rfl, rfl, rfl, rfl, rfl, rfl⟩
                                      exact q_iret C hP hS ⟨by rw [eX]; rfl, A9, by rw [eX]; exact q9, hR9.tr hQ rfl r9⟩ (by omega) dX8_list_239
                                  · replace c223 : ¬ 0 = 0 := fun zq => c223 ((nI_eq (a := 0) (b := 0) (by omega) (by omega)).mpr zq)
                                    exfalso; omega
                        · replace c116 : ¬ q ≤ nW := fun zq => c116 ((nI_leI (a := q) (b := nW) (by omega) (by omega)).mpr zq)
                          refine lv_aload_n hx hb dX8_list_119 rfl (lv_at hl 3 rfl) ?_
                          refine q_get C hP hY rfl inX8 2 (by decide) g1169 rfl dX8_list_120 ?_
                          refine q_get C hP faw rfl inX7 0 (by decide) g1138 rfl dX8_list_123 ?_
                          refine lv_aload_n hx hb dX8_list_126 rfl (lv_at hl 3 rfl) ?_
                          refine q_get C hP hY rfl inX8 2 (by decide) g1169 rfl dX8_list_127 ?_
                          refine q_get C hP faw rfl inX7 3 (by decide) g1143 rfl dX8_list_130 ?_
                          obtain ⟨Ff, hff, hfj, hfb⟩ := hQ.1.first hY
                          refine lv_aload_n hx hb dX8_list_133 rfl (lv_at hl 3 rfl) ?_
                          refine q_get C hP hY rfl inX8 11 (by decide) g1178 rfl dX8_list_134 ?_
                          refine lv_iload hx hb dX8_list_137 (lv_at hl 0 rfl) ?_
                          refine q_laldN C hP hff (by omega) (by omega) dX8_list_139 ?_
                          rw [hfj s9 hss.1]
                          refine q_lastN C hP hS fkw (by omega) (by omega) dX8_list_140 (fun H locs hP hS => ?_)
                          obtain ⟨hv17, ehv17⟩ : ∃ z : qH, z = qs hh (rk 28) (.inl (cy 1, 1001, .inr (.inl (vp_updL fW nW (a9.2.2.1 s9))))) := ⟨_, rfl⟩
                          rw [← ehv17] at hP
                          have khv17 : ∀ b o, b ≠ (rk 28) → hh b = some o → hv17 b = some o := by rw [ehv17]; exact fun b o nb hb => (qs_ne nb).trans hb
                          replace hY := khv17 _ _ (fun q => by have z9 := hY; rw [q] at z9; have := z9.symm.trans fkw; first | cases this | simp at this) hY
                          replace hms := khv17 _ _ (fun q => by have z9 := hms; rw [q] at z9; have := z9.symm.trans fkw; first | cases this | simp at this) hms
                          replace hmb := khv17 _ _ (fun q => by have z9 := hmb; rw [q] at z9; have := z9.symm.trans fkw; first | cases this | simp at this) hmb
                          replace faw := khv17 _ _ (fun q => by have z9 := faw; rw [q] at z9; have := z9.symm.trans fkw; first | cases this | simp at this) faw
                          replace fvw := khv17 _ _ hRw.1.symm fvw
                          replace fkw : hv17 (rk 28) = some (.inl (cy 1, 1001, .inr (.inl (vp_updL fW nW (a9.2.2.1 s9))))) := by rw [ehv17]; exact qs_self
                          clear ehv17
                          replace fr := fun b o hb n1 n2 => khv17 b o n2.2.1 (fr b o hb n1 n2)
                          refine lv_aload_n hx hb dX8_list_141 rfl (lv_at hl 3 rfl) ?_
                          refine q_get C hP hY rfl inX8 2 (by decide) g1169 rfl dX8_list_142 ?_
                          refine lv_dup hx hb dX8_list_145 rfl ?_
                          refine q_get C hP faw rfl inX7 3 (by decide) g1143 rfl dX8_list_146 ?_
                          refine lv_iconst (v := nI 1) hx hb dX8_list_149 (by decide) ?_
                          refine q_iaddN hx hb dX8_list_150 ?_
                          refine q_put C hP hS faw rfl inX7 tyX7 tyX7_ok nmX7 3 (by decide) g1143 rfl rfl rfl (Nat.le_of_ble_eq_true rfl) dX8_list_151 (fun H locs hP hS => ?_)
                          replace hP : qP D N0 (qs hv17 (ra 28) (.inr (7, [.ref (rk 28), .ref (rv 28), .int (nI 0), .int (nI (nW + 1)), .int (nI 0), .int (nI 0), .int rww]))) H := hP
                          obtain ⟨hv18, ehv18⟩ : ∃ z : qH, z = qs hv17 (ra 28) (.inr (7, [.ref (rk 28), .ref (rv 28), .int (nI 0), .int (nI (nW + 1)), .int (nI 0), .int (nI 0), .int rww])) := ⟨_, rfl⟩
                          rw [← ehv18] at hP
                          have khv18 : ∀ b o, b ≠ (ra 28) → hv17 b = some o → hv18 b = some o := by rw [ehv18]; exact fun b o nb hb => (qs_ne nb).trans hb
                          replace hY := khv18 _ _ (fun q => by have z9 := hY; rw [q] at z9; have := z9.symm.trans faw; first | cases this | simp at this) hY
                          replace hms := khv18 _ _ (fun q => by have z9 := hms; rw [q] at z9; have := z9.symm.trans faw; first | cases this | simp at this) hms
                          replace hmb := khv18 _ _ (fun q => by have z9 := hmb; rw [q] at z9; have := z9.symm.trans faw; first | cases this | simp at this) hmb
                          replace fkw := khv18 _ _ (fun q => by have z9 := fkw; rw [q] at z9; have := z9.symm.trans faw; first | cases this | simp at this) fkw
                          replace fvw := khv18 _ _ (fun q => by have z9 := fvw; rw [q] at z9; have := z9.symm.trans faw; first | cases this | simp at this) fvw
                          replace faw : hv18 (ra 28) = some (.inr (7, [.ref (rk 28), .ref (rv 28), .int (nI 0), .int (nI (nW + 1)), .int (nI 0), .int (nI 0), .int rww])) := by rw [ehv18]; exact qs_self
                          clear ehv18
                          replace fr := fun b o hb n1 n2 => khv18 b o n2.1 (fr b o hb n1 n2)
                          refine lv_aload_n hx hb dX8_list_154 rfl (lv_at hl 3 rfl) ?_
                          refine q_get C hP hY rfl inX8 2 (by decide) g1169 rfl dX8_list_155 ?_
                          refine q_get C hP faw rfl inX7 3 (by decide) g1143 rfl dX8_list_158 ?_
                          refine lv_iload_n hx hb dX8_list_161 rfl (lv_at hl 1 rfl) ?_
                          refine lv_icmp_ge (tgt := 178) hx hb dX8_list_162 (by decide) (fun c162 => ?_) (fun c162 => ?_)
                          · replace c162 : q ≤ (nW + 1) := (nI_leI (a := q) (b := (nW + 1)) (by omega) (by omega)).mp c162
                            refine lv_aload_n hx hb dX8_list_178 rfl (lv_at hl 3 rfl) ?_
                            refine q_get C hP hY rfl inX8 10 (by decide) g1177 rfl dX8_list_179 ?_
                            obtain ⟨m8, f8⟩ := hM.fin0 hY0 (h' := hv18) ⟨hRw.1, hRw.2.1, hRw.2.2.1, faw, fkw, fvw⟩ fr
                            obtain ⟨q8, r8⟩ := hQ.rowM (o' := (ms, mb, ra 28, od, pt, ro, gr, 0, x9, nI m0, ct, 0, rn)) hY0 hY m8 f8 ⟨rfl, rfl, rfl, rfl, rfl, rfl⟩
                            have rt8 := hR9.tr hQ rfl r8
                            have lw8 : qLs (nI 0) (vp_updL fW nW (a9.2.2.1 s9)) gw (nW + 1) = (L9 ++ [a9.2.2.1 s9]).map (fun v => (v, 0)) := by rw [qLs_succ, List.map_append, ← lw, qLs_ext (kd := nI 0) (f := vp_updL fW nW (a9.2.2.1 s9)) (g := gw) (f2 := fW) (g2 := gw) (n := nW) (fun j9 hj9 => ⟨if_neg (by omega), fun _ => rfl⟩)]; congr 1; show [(vp_updL fW nW (a9.2.2.1 s9) nW, xV (nI 0) (gw nW))] = _; rw [vp_updL, if_pos rfl]; rfl
                            refine lv_if_eq (tgt := 103) hx hb dX8_list_182 (by decide) (fun _ => ?_) (fun c => absurd rfl c)
                            exact ihu (nW + 1) H locs ls _ A9 x9 (nI m0) a9 k9 dp9 s9 _ _ _ (L9 ++ [a9.2.2.1 s9]) (by omega) (lv_sub hl [0, 1, 2, 3] rfl) (by omega) hP hS q8 rt8 ⟨hRw.1, hRw.2.1, hRw.2.2.1, faw, fkw, fvw⟩ hV9 hss (by rw [hXX, xLst_nil (Or.inl (show q - (nW + 1) = 0 by omega)), show q - nW = 0 + 1 by omega, xLst, if_neg (by omega), if_pos rfl, List.append_nil]) lw8 hcc
                          · replace c162 : ¬ q ≤ (nW + 1) := fun zq => c162 ((nI_leI (a := q) (b := (nW + 1)) (by omega) (by omega)).mpr zq)
                            obtain ⟨m8, f8⟩ := hM.fin0 hY0 (h' := hv18) ⟨hRw.1, hRw.2.1, hRw.2.2.1, faw, fkw, fvw⟩ fr
                            obtain ⟨q8, r8⟩ := hQ.rowM (o' := (ms, mb, ra 28, od, pt, ro, gr, 0, x9, nI m0, ct, 0, rn)) hY0 hY m8 f8 ⟨rfl, rfl, rfl, rfl, rfl, rfl⟩
                            have rt8 := hR9.tr hQ rfl r8
                            have lw8 : qLs (nI 0) (vp_updL fW nW (a9.2.2.1 s9)) gw (nW + 1) = (L9 ++ [a9.2.2.1 s9]).map (fun v => (v, 0)) := by rw [qLs_succ, List.map_append, ← lw, qLs_ext (kd := nI 0) (f := vp_updL fW nW (a9.2.2.1 s9)) (g := gw) (f2 := fW) (g2 := gw) (n := nW) (fun j9 hj9 => ⟨if_neg (by omega), fun _ => rfl⟩)]; congr 1; show [(vp_updL fW nW (a9.2.2.1 s9) nW, xV (nI 0) (gw nW))] = _; rw [vp_updL, if_pos rfl]; rfl
                            obtain ⟨Fr, hre, hrj⟩ := q8.1.rest hY
                            refine lv_aload_n hx hb dX8_list_165 rfl (lv_at hl 3 rfl) ?_
                            refine lv_aload_n hx hb dX8_list_166 rfl (lv_at hl 3 rfl) ?_
                            refine q_get C hP hY rfl inX8 12 (by decide) g1179 rfl dX8_list_167 ?_
                            refine lv_iload hx hb dX8_list_170 (lv_at hl 0 rfl) ?_
                            refine q_ialdN C hP hre (by omega) (by omega) dX8_list_172 ?_
                            rw [hrj s9 hss.1, hV9.r _ hss.1]
                            obtain ⟨s2, o2, a2, k2, er9⟩ : ∃ z1 z2 z3 z4, F ((ms, mb, ra 28, od, pt, ro, gr, 0, x9, nI m0, ct, 0, rn), a9, k9) s9 = (z1, z2, z3, z4) := ⟨_, _, _, _, rfl⟩
                            have hcall := hF hv18 A9 (ms, mb, ra 28, od, pt, ro, gr, 0, x9, nI m0, ct, 0, rn) a9 k9 _ dp9 s9 q8.1 q8.2.1 q8.2.2.2.2.1 hV9 rfl hss.1 (by omega)
                            rw [er9] at hcall
                            dsimp only at hcall
                            have st9 := hG _ dp9 ((ms, mb, ra 28, od, pt, ro, gr, 0, x9, nI m0, ct, 0, rn), a9, k9) s9 hV9 rfl hss.1 (by omega)
                            rw [er9] at st9
                            obtain ⟨dp2, d1, w2, d3, d4, d5, ⟨x6, y6, z6, e6⟩, d7⟩ := st9
                            dsimp only at d3 d4 e6 d5 w2
                            subst e6
                            have hX2 : X = if ¬ z6 = 0 then xLfin S i q (L9 ++ [a9.2.2.1 s9], (oFa (oMv (oCa (ms, mb, ra 28, od, pt, ro, gr, 0, x9, nI m0, ct, 0, rn) x6) y6) z6, a2, k2)) else xLfin S i q ((L9 ++ [a9.2.2.1 s9]) ++ (xLst F (q - (nW + 1)) (oFa (oMv (oCa (ms, mb, ra 28, od, pt, ro, gr, 0, x9, nI m0, ct, 0, rn) x6) y6) z6, a2, k2) s2).1, (xLst F (q - (nW + 1)) (oFa (oMv (oCa (ms, mb, ra 28, od, pt, ro, gr, 0, x9, nI m0, ct, 0, rn) x6) y6) z6, a2, k2) s2).2) := by
                              rw [hXX, show q - nW = (q - (nW + 1)) + 1 by omega, xLst_step (by omega) (by omega) er9]
                              by_cases z : ¬ z6 = 0
                              · rw [if_pos z, if_pos (show ¬ oFq _ = 0 from z)]
                              · rw [if_neg z, if_neg (show ¬ ¬ oFq _ = 0 from z), List.append_assoc]; rfl
                            have hpm := qP_mono (a := a9) (b := a2) (by omega) d4
                            have hpX : qP1 a2 ≤ qP1 X.2.2.2.2.1 ∧ qP2 a2 ≤ qP2 X.2.2.2.2.1 := by
                              rw [hX2]
                              by_cases z : ¬ z6 = 0
                              · rw [if_pos z, xLfin_a]; exact ⟨Nat.le_refl _, Nat.le_refl _⟩
                              · rw [if_neg z, xLfin_a]; have z2 := d5 (Decidable.not_not.mp z); exact qStp.P w2 (xLst_stp hG hdc _ s2 dp2 _ w2 (Decidable.not_not.mp z) ⟨z2.1, by omega⟩)
                            refine q_callV (rest := []) C (hcall) kX8_force g1331 g1333 rfl gp50 g4 hP hS hY (by first | decide | omega) hl.1 rfl (by decide) (by first | decide | omega) dX8_list_173 (fun q ce E h' H1 locs1 hE => hE.elim) (fun v hh19 H locs hq hP hS => ?_)
                            obtain ⟨rfl, A1, hS1, hF1, nA1⟩ := hq
                            have ap9 := q8.2.2.2.2.2
                            replace hms := hF1.1 _ _ hms (qne_arr (cy := cy) hms hY) ap9.two.1
                            replace hmb := hF1.1 _ _ hmb (qne_arr (cy := cy) hmb hY) ap9.two.2
                            replace faw := hF1.1 _ _ faw (fun z => by rw [z] at faw; have := faw.symm.trans hY; cases this) (ap9.row (i := 28) (by omega)).1
                            replace fkw := hF1.1 _ _ fkw (qne_arr (cy := cy) fkw hY) (ap9.row (i := 28) (by omega)).2.1
                            replace fvw := hF1.1 _ _ fvw (qne_arr (cy := cy) fvw hY) (ap9.row (i := 28) (by omega)).2.2
                            obtain ⟨q7a, r7a⟩ := q8.str hS1 hF1 nA1 ⟨rfl, rfl, rfl, rfl, rfl, rfl⟩
                            have rta := rt8.tr q8 rfl r7a
                            clear hY
                            obtain ⟨fja, rja, rcja, rsja, soja, otja, cnja, laja, hY⟩ := q7a.1.yo2
                            unfold qYo at hY
                            dsimp only [oFa, oMv, oCa, oCd] at hY
                            have hY0 := hY
                            have hM := q7a.2.2.1
                            have hrs := hM.2.2.2.2.1
                            replace hRw : qRw cy hh19 (ra 28) (rk 28) (rv 28) (nI 0) (nI (nW + 1)) (nI 0) (nI 0) rww (vp_updL fW nW (a9.2.2.1 s9)) gw := ⟨hRw.1, hRw.2.1, hRw.2.2.1, faw, fkw, fvw⟩
                            replace fr : ∀ b o, hh19 b = some o → b ≠ y → qOf (ra 28) (rk 28) (rv 28) b → hh19 b = some o := fun b o hb _ _ => hb
                            refine lv_istore (lv' := [(4, .int (nI s2)), (3, .int (nI q)), (1, .int (nI i)), (0, .ref y)]) hx hb dX8_list_176 hl (by decide) rfl (fun ls hl => ?_)
                            refine lv_aload_n hx hb dX8_list_178 rfl (lv_at hl 3 rfl) ?_
                            refine q_get C hP hY rfl inX8 10 (by decide) g1177 rfl dX8_list_179 ?_
                            refine lv_if_eq (tgt := 103) hx hb dX8_list_182 (by decide) (fun c182 => ?_) (fun c182 => ?_)
                            · have z6e : z6 = 0 := c182
                              subst z6e
                              have z2 := d5 rfl
                              exact ihu (nW + 1) H locs ls _ A1 x6 y6 a2 k2 dp2 s2 _ _ _ (L9 ++ [a9.2.2.1 s9]) (by omega) (lv_sub hl [0, 1, 2, 3] rfl) (by omega) hP hS q7a rta ⟨hRw.1, hRw.2.1, hRw.2.2.1, faw, fkw, fvw⟩ w2 ⟨z2.1, by omega⟩ (by rw [if_neg (fun z => z rfl)] at hX2; exact hX2) lw8 ⟨by omega, by omega⟩
                            · rw [if_pos c182] at hX2
                              refine lv_goto (tgt := 188) hx hb dX8_list_185 (by decide) ?_
                              refine lv_aload_n hx hb dX8_list_188 rfl (lv_at hl 3 rfl) ?_
                              refine lv_aload_n hx hb dX8_list_189 rfl (lv_at hl 3 rfl) ?_
                              refine q_get C hP hY rfl inX8 10 (by decide) g1177 rfl dX8_list_190 ?_
                              refine lv_iconst (v := 1) hx hb dX8_list_193 (by decide) ?_
                              refine lv_icmp_eq (tgt := 201) hx hb dX8_list_194 (by decide) (fun c194 => ?_) (fun c194 => ?_)
                              · refine lv_iconst (v := nI 0) hx hb dX8_list_201 (by decide) ?_
                                refine lv_iconst (v := nI 3) hx hb dX8_list_202 (by decide) ?_
                                refine q_callV (rest := []) C (c_X8_good0 l D cy N0 hh19 y ms mb (ra 28) od pt fja rja rcja rsja soja otja cnja laja ro gr 0 x6 y6 ct z6 (nI a2.1) (nI k2.1) rn (nI 3) hY) kX8_good g1249 g1251 rfl gp41 g4 hP hS hY (by first | decide | omega) hl.1 rfl (by decide) (by first | decide | omega) dX8_list_203 (fun q ce E h' H1 locs1 hE => hE.elim) (fun v hh20 H locs hq hP hS => ?_)
                                obtain ⟨rfl, rfl⟩ := hq
                                replace hP : qP D N0 (qs hh19 y (.inr (8, [.ref ms, .ref mb, .ref (ra 28), .int gr, .int (nI 3), .int x6, .int y6, .ref od, .ref pt, .int ct, .int z6, .ref fja, .ref rja, .int (nI a2.1), .ref rcja, .ref rsja, .ref soja, .ref otja, .ref cnja, .ref laja, .int (nI k2.1), .ref ro, .int rn]))) H := hP
                                obtain ⟨hv19, ehv19⟩ : ∃ z : qH, z = qs hh19 y (.inr (8, [.ref ms, .ref mb, .ref (ra 28), .int gr, .int (nI 3), .int x6, .int y6, .ref od, .ref pt, .int ct, .int z6, .ref fja, .ref rja, .int (nI a2.1), .ref rcja, .ref rsja, .ref soja, .ref otja, .ref cnja, .ref laja, .int (nI k2.1), .ref ro, .int rn])) := ⟨_, rfl⟩
                                rw [← ehv19] at hP
                                have khv19 : ∀ b o, b ≠ y → hh19 b = some o → hv19 b = some o := by rw [ehv19]; exact fun b o nb hb => (qs_ne nb).trans hb
                                replace hms := khv19 _ _ (fun q => by subst q; have := hms.symm.trans hY; first | cases this | simp at this) hms
                                replace hmb := khv19 _ _ (fun q => by subst q; have := hmb.symm.trans hY; first | cases this | simp at this) hmb
                                replace faw := khv19 _ _ (fun q => by have z9 := faw; rw [q] at z9; have := z9.symm.trans hY; first | cases this | simp at this) faw
                                replace fkw := khv19 _ _ (fun q => by have z9 := fkw; rw [q] at z9; have := z9.symm.trans hY; first | cases this | simp at this) fkw
                                replace fvw := khv19 _ _ (fun q => by have z9 := fvw; rw [q] at z9; have := z9.symm.trans hY; first | cases this | simp at this) fvw
                                replace hY : hv19 y = some (.inr (8, [.ref ms, .ref mb, .ref (ra 28), .int gr, .int (nI 3), .int x6, .int y6, .ref od, .ref pt, .int ct, .int z6, .ref fja, .ref rja, .int (nI a2.1), .ref rcja, .ref rsja, .ref soja, .ref otja, .ref cnja, .ref laja, .int (nI k2.1), .ref ro, .int rn])) := by rw [ehv19]; exact qs_self
                                clear ehv19
                                replace fr := fun b o hb n1 n2 => khv19 b o n1 (fr b o hb n1 n2)
                                refine lv_if_eq (tgt := 238) hx hb dX8_list_206 (by decide) (fun c206 => ?_) (fun c206 => ?_)
                                · replace c206 : 0 = 0 := (nI_eq (a := 0) (b := 0) (by omega) (by omega)).mp c206
                                  refine lv_iconst (v := nI 0) hx hb dX8_list_238 (by decide) ?_
                                  obtain ⟨m9, f9⟩ := hM.fin0 hY0 (h' := hv19) ⟨hRw.1, hRw.2.1, hRw.2.2.1, faw, fkw, fvw⟩ fr
                                  have eX : X = (3, 0, S, (oFa (oMv (oCa (ms, mb, ra 28, od, pt, ro, gr, 0, x9, nI m0, ct, 0, rn) x6) y6) z6), a2, k2) := by rw [hX2]; unfold xLfin; rw [if_pos (show oFq _ = 1 from c194)]
                                  obtain ⟨q9, r9⟩ := q7a.rowM (o' := oCd (oFa (oMv (oCa (ms, mb, ra 28, od, pt, ro, gr, 0, x9, nI m0, ct, 0, rn) x6) y6) z6) 3) hY0 hY m9 f9 ⟨rfl, rfl, rfl, rfl, rfl, rfl⟩
                                  exact q_iret C hP hS ⟨by rw [eX]; rfl, A1, by rw [eX]; exact q9, rta.tr q7a rfl r9⟩ (by omega) dX8_list_239
                                · replace c206 : ¬ 0 = 0 := fun zq => c206 ((nI_eq (a := 0) (b := 0) (by omega) (by omega)).mpr zq)
                                  exfalso; omega
                              · refine lv_iconst (v := nI 1) hx hb dX8_list_197 (by decide) ?_
                                refine lv_goto (tgt := 202) hx hb dX8_list_198 (by decide) ?_
                                refine lv_iconst (v := nI 3) hx hb dX8_list_202 (by decide) ?_
                                refine q_callV (rest := []) C (c_X8_good1 l D cy N0 hh19 y ms mb (ra 28) od pt fja rja rcja rsja soja otja cnja laja ro gr 0 x6 y6 ct z6 (nI a2.1) (nI k2.1) rn (nI 3) hY) kX8_good g1249 g1251 rfl gp41 g4 hP hS hY (by first | decide | omega) hl.1 rfl (by decide) (by first | decide | omega) dX8_list_203 (fun q ce E h' H1 locs1 hE => hE.elim) (fun v hh21 H locs hq hP hS => ?_)
                                obtain ⟨rfl, rfl⟩ := hq
                                replace hP : qP D N0 (qs hh19 y (.inr (8, [.ref ms, .ref mb, .ref (ra 28), .int gr, .int 0, .int x6, .int y6, .ref od, .ref pt, .int ct, .int z6, .ref fja, .ref rja, .int (nI a2.1), .ref rcja, .ref rsja, .ref soja, .ref otja, .ref cnja, .ref laja, .int (nI k2.1), .ref ro, .int rn]))) H := hP
                                obtain ⟨hv20, ehv20⟩ : ∃ z : qH, z = qs hh19 y (.inr (8, [.ref ms, .ref mb, .ref (ra 28), .int gr, .int 0, .int x6, .int y6, .ref od, .ref pt, .int ct, .int z6, .ref fja, .ref rja, .int (nI a2.1), .ref rcja, .ref rsja, .ref soja, .ref otja, .ref cnja, .ref laja, .int (nI k2.1), .ref ro, .int rn])) := ⟨_, rfl⟩
                                rw [← ehv20] at hP
                                have khv20 : ∀ b o, b ≠ y → hh19 b = some o → hv20 b = some o := by rw [ehv20]; exact fun b o nb hb => (qs_ne nb).trans hb
                                replace hms := khv20 _ _ (fun q => by subst q; have := hms.symm.trans hY; first | cases this | simp at this) hms
                                replace hmb := khv20 _ _ (fun q => by subst q; have := hmb.symm.trans hY; first | cases this | simp at this) hmb
                                replace faw := khv20 _ _ (fun q => by have z9 := faw; rw [q] at z9; have := z9.symm.trans hY; first | cases this | simp at this) faw
                                replace fkw := khv20 _ _ (fun q => by have z9 := fkw; rw [q] at z9; have := z9.symm.trans hY; first | cases this | simp at this) fkw
                                replace fvw := khv20 _ _ (fun q => by have z9 := fvw; rw [q] at z9; have := z9.symm.trans hY; first | cases this | simp at this) fvw
                                replace hY : hv20 y = some (.inr (8, [.ref ms, .ref mb, .ref (ra 28), .int gr, .int 0, .int x6, .int y6, .ref od, .ref pt, .int ct, .int z6, .ref fja, .ref rja, .int (nI a2.1), .ref rcja, .ref rsja, .ref soja, .ref otja, .ref cnja, .ref laja, .int (nI k2.1), .ref ro, .int rn])) := by rw [ehv20]; exact qs_self
                                clear ehv20
                                replace fr := fun b o hb n1 n2 => khv20 b o n1 (fr b o hb n1 n2)
                                refine lv_if_eq (tgt := 238) hx hb dX8_list_206 (by decide) (fun c206 => ?_) (fun c206 => ?_)
                                · replace c206 : 1 = 0 := (nI_eq (a := 1) (b := 0) (by omega) (by omega)).mp c206
                                  exfalso; omega
                                · replace c206 : ¬ 1 = 0 := fun zq => c206 ((nI_eq (a := 1) (b := 0) (by omega) (by omega)).mpr zq)
                                  refine lv_aload_n hx hb dX8_list_209 rfl (lv_at hl 3 rfl) ?_
                                  refine lv_aload_n hx hb dX8_list_210 rfl (lv_at hl 3 rfl) ?_
                                  refine q_get C hP hY rfl inX8 10 (by decide) g1177 rfl dX8_list_211 ?_
                                  refine lv_if_ne (tgt := 230) hx hb dX8_list_214 (by decide) (fun _ => ?_) (fun c => absurd c c182)
                                  refine lv_iconst (v := nI 0) hx hb dX8_list_230 (by decide) ?_
                                  refine lv_iconst (v := nI 4) hx hb dX8_list_231 (by decide) ?_
                                  refine q_callV (rest := []) C (c_X8_good0 l D cy N0 hv20 y ms mb (ra 28) od pt fja rja rcja rsja soja otja cnja laja ro gr 0 x6 y6 ct z6 (nI a2.1) (nI k2.1) rn (nI 4) hY) kX8_good g1249 g1251 rfl gp41 g4 hP hS hY (by first | decide | omega) hl.1 rfl (by decide) (by first | decide | omega) dX8_list_232 (fun q ce E h' H1 locs1 hE => hE.elim) (fun v hh22 H locs hq hP hS => ?_)
                                  obtain ⟨rfl, rfl⟩ := hq
                                  replace hP : qP D N0 (qs hv20 y (.inr (8, [.ref ms, .ref mb, .ref (ra 28), .int gr, .int (nI 4), .int x6, .int y6, .ref od, .ref pt, .int ct, .int z6, .ref fja, .ref rja, .int (nI a2.1), .ref rcja, .ref rsja, .ref soja, .ref otja, .ref cnja, .ref laja, .int (nI k2.1), .ref ro, .int rn]))) H := hP
                                  obtain ⟨hv21, ehv21⟩ : ∃ z : qH, z = qs hv20 y (.inr (8, [.ref ms, .ref mb, .ref (ra 28), .int gr, .int (nI 4), .int x6, .int y6, .ref od, .ref pt, .int ct, .int z6, .ref fja, .ref rja, .int (nI a2.1), .ref rcja, .ref rsja, .ref soja, .ref otja, .ref cnja, .ref laja, .int (nI k2.1), .ref ro, .int rn])) := ⟨_, rfl⟩
                                  rw [← ehv21] at hP
                                  have khv21 : ∀ b o, b ≠ y → hv20 b = some o → hv21 b = some o := by rw [ehv21]; exact fun b o nb hb => (qs_ne nb).trans hb
                                  replace hms := khv21 _ _ (fun q => by subst q; have := hms.symm.trans hY; first | cases this | simp at this) hms
                                  replace hmb := khv21 _ _ (fun q => by subst q; have := hmb.symm.trans hY; first | cases this | simp at this) hmb
                                  replace faw := khv21 _ _ (fun q => by have z9 := faw; rw [q] at z9; have := z9.symm.trans hY; first | cases this | simp at this) faw
                                  replace fkw := khv21 _ _ (fun q => by have z9 := fkw; rw [q] at z9; have := z9.symm.trans hY; first | cases this | simp at this) fkw
                                  replace fvw := khv21 _ _ (fun q => by have z9 := fvw; rw [q] at z9; have := z9.symm.trans hY; first | cases this | simp at this) fvw
                                  replace hY : hv21 y = some (.inr (8, [.ref ms, .ref mb, .ref (ra 28), .int gr, .int (nI 4), .int x6, .int y6, .ref od, .ref pt, .int ct, .int z6, .ref fja, .ref rja, .int (nI a2.1), .ref rcja, .ref rsja, .ref soja, .ref otja, .ref cnja, .ref laja, .int (nI k2.1), .ref ro, .int rn])) := by rw [ehv21]; exact qs_self
                                  clear ehv21
                                  replace fr := fun b o hb n1 n2 => khv21 b o n1 (fr b o hb n1 n2)
                                  refine lv_if_ne (tgt := 240) hx hb dX8_list_235 (by decide) (fun c235 => ?_) (fun c235 => ?_)
                                  · replace c235 : ¬ 0 = 0 := fun zq => c235 ((nI_eq (a := 0) (b := 0) (by omega) (by omega)).mpr zq)
                                    exfalso; omega
                                  · replace c235 : 0 = 0 := (nI_eq (a := 0) (b := 0) (by omega) (by omega)).mp c235
                                    refine lv_iconst (v := nI 0) hx hb dX8_list_238 (by decide) ?_
                                    obtain ⟨m9, f9⟩ := hM.fin0 hY0 (h' := hv21) ⟨hRw.1, hRw.2.1, hRw.2.2.1, faw, fkw, fvw⟩ fr
                                    have eX : X = (4, 0, S, (oFa (oMv (oCa (ms, mb, ra 28, od, pt, ro, gr, 0, x9, nI m0, ct, 0, rn) x6) y6) z6), a2, k2) := by rw [hX2]; unfold xLfin; rw [if_neg (show ¬ oFq _ = 1 from c194), if_pos (Or.inl (show ¬ oFq _ = 0 from c182))]
                                    obtain ⟨q9, r9⟩ := q7a.rowM (o' := oCd (oFa (oMv (oCa (ms, mb, ra 28, od, pt, ro, gr, 0, x9, nI m0, ct, 0, rn) x6) y6) z6) 4) hY0 hY m9 f9 ⟨rfl, rfl, rfl, rfl, rfl, rfl⟩
                                    exact q_iret C hP hS ⟨by rw [eX]; rfl, A1, by rw [eX]; exact q9, rta.tr q7a rfl r9⟩ (by omega) dX8_list_239
                  · replace c50 : 1 = 0 := (nI_eq (a := 1) (b := 0) (by omega) (by omega)).mp c50
                    exfalso; omega
      · have ebj : bSl p1 = false := bSl_f sl9
        refine lv_if_eq (tgt := 30) hx hb dX8_list_12 (by decide) (fun c12 => ?_) (fun c12 => ?_)
        · replace c12 : 0 = 0 := (nI_eq (a := 0) (b := 0) (by omega) (by omega)).mp c12
          refine lv_iconst (v := nI 0) hx hb dX8_list_30 (by decide) ?_
          refine lv_iconst (v := nI 1) hx hb dX8_list_31 (by decide) ?_
          refine q_callV (rest := []) C (c_X8_good0 l D cy N0 h y ms mb (ra 28) od pt fi re rc rs so ot cn la ro gr cd ca mv ct fau cs ce rn (nI 1) hY) kX8_good g1249 g1251 rfl gp41 g4 hP hS hY (by first | decide | omega) hl.1 rfl (by decide) (by first | decide | omega) dX8_list_32 (fun q ce E h' H1 locs1 hE => hE.elim) (fun v hh23 H locs hq hP hS => ?_)
          obtain ⟨rfl, rfl⟩ := hq
          replace hP : qP D N0 (qs h y (.inr (8, [.ref ms, .ref mb, .ref (ra 28), .int gr, .int (nI 1), .int ca, .int mv, .ref od, .ref pt, .int ct, .int fau, .ref fi, .ref re, .int cs, .ref rc, .ref rs, .ref so, .ref ot, .ref cn, .ref la, .int ce, .ref ro, .int rn]))) H := hP
          obtain ⟨hv22, ehv22⟩ : ∃ z : qH, z = qs h y (.inr (8, [.ref ms, .ref mb, .ref (ra 28), .int gr, .int (nI 1), .int ca, .int mv, .ref od, .ref pt, .int ct, .int fau, .ref fi, .ref re, .int cs, .ref rc, .ref rs, .ref so, .ref ot, .ref cn, .ref la, .int ce, .ref ro, .int rn])) := ⟨_, rfl⟩
          rw [← ehv22] at hP
          have khv22 : ∀ b o, b ≠ y → h b = some o → hv22 b = some o := by rw [ehv22]; exact fun b o nb hb => (qs_ne nb).trans hb
          replace hms := khv22 _ _ (fun q => by subst q; have := hms.symm.trans hY; first | cases this | simp at this) hms
          replace hmb := khv22 _ _ (fun q => by subst q; have := hmb.symm.trans hY; first | cases this | simp at this) hmb
          replace faw := khv22 _ _ (fun q => by have z9 := faw; rw [q] at z9; have := z9.symm.trans hY; first | cases this | simp at this) faw
          replace fkw := khv22 _ _ (fun q => by have z9 := fkw; rw [q] at z9; have := z9.symm.trans hY; first | cases this | simp at this) fkw
          replace fvw := khv22 _ _ (fun q => by have z9 := fvw; rw [q] at z9; have := z9.symm.trans hY; first | cases this | simp at this) fvw
          replace hY : hv22 y = some (.inr (8, [.ref ms, .ref mb, .ref (ra 28), .int gr, .int (nI 1), .int ca, .int mv, .ref od, .ref pt, .int ct, .int fau, .ref fi, .ref re, .int cs, .ref rc, .ref rs, .ref so, .ref ot, .ref cn, .ref la, .int ce, .ref ro, .int rn])) := by rw [ehv22]; exact qs_self
          clear ehv22
          replace fr := fun b o hb n1 n2 => khv22 b o n1 (fr b o hb n1 n2)
          refine lv_if_eq (tgt := 53) hx hb dX8_list_35 (by decide) (fun c35 => ?_) (fun c35 => ?_)
          · replace c35 : 0 = 0 := (nI_eq (a := 0) (b := 0) (by omega) (by omega)).mp c35
            refine lv_iconst (v := nI 0) hx hb dX8_list_53 (by decide) ?_
            have eX : X = (1, 0, S, (ms, mb, ra 28, od, pt, ro, gr, cd, ca, mv, ct, fau, rn), a, k) := by rw [← hX]; unfold xs_list; rw [if_pos (by simp [ebi, ebj])]
            obtain ⟨m8, f8⟩ := hM.fin0 hY0 (h' := hv22) ⟨hRw.1, hRw.2.1, hRw.2.2.1, faw, fkw, fvw⟩ fr
            obtain ⟨q8, r8⟩ := hQ.rowM (o' := oCd (ms, mb, ra 28, od, pt, ro, gr, cd, ca, mv, ct, fau, rn) 1) hY0 hY m8 f8 ⟨rfl, rfl, rfl, rfl, rfl, rfl⟩
            exact q_iret C hP hS ⟨by rw [eX]; rfl, A, by rw [eX]; exact q8, r8⟩ (by omega) dX8_list_54
          · replace c35 : ¬ 0 = 0 := fun zq => c35 ((nI_eq (a := 0) (b := 0) (by omega) (by omega)).mpr zq)
            exfalso; omega
        · replace c12 : ¬ 0 = 0 := fun zq => c12 ((nI_eq (a := 0) (b := 0) (by omega) (by omega)).mpr zq)
          exfalso; omega
  · have ebi : bSl p0 = false := bSl_f sl9
    refine lv_if_eq (tgt := 30) hx hb dX8_list_5 (by decide) (fun c5 => ?_) (fun c5 => ?_)
    · replace c5 : 0 = 0 := (nI_eq (a := 0) (b := 0) (by omega) (by omega)).mp c5
      refine lv_iconst (v := nI 0) hx hb dX8_list_30 (by decide) ?_
      refine lv_iconst (v := nI 1) hx hb dX8_list_31 (by decide) ?_
      refine q_callV (rest := []) C (c_X8_good0 l D cy N0 h y ms mb (ra 28) od pt fi re rc rs so ot cn la ro gr cd ca mv ct fau cs ce rn (nI 1) hY) kX8_good g1249 g1251 rfl gp41 g4 hP hS hY (by first | decide | omega) hl.1 rfl (by decide) (by first | decide | omega) dX8_list_32 (fun q ce E h' H1 locs1 hE => hE.elim) (fun v hh24 H locs hq hP hS => ?_)
      obtain ⟨rfl, rfl⟩ := hq
      replace hP : qP D N0 (qs h y (.inr (8, [.ref ms, .ref mb, .ref (ra 28), .int gr, .int (nI 1), .int ca, .int mv, .ref od, .ref pt, .int ct, .int fau, .ref fi, .ref re, .int cs, .ref rc, .ref rs, .ref so, .ref ot, .ref cn, .ref la, .int ce, .ref ro, .int rn]))) H := hP
      obtain ⟨hv23, ehv23⟩ : ∃ z : qH, z = qs h y (.inr (8, [.ref ms, .ref mb, .ref (ra 28), .int gr, .int (nI 1), .int ca, .int mv, .ref od, .ref pt, .int ct, .int fau, .ref fi, .ref re, .int cs, .ref rc, .ref rs, .ref so, .ref ot, .ref cn, .ref la, .int ce, .ref ro, .int rn])) := ⟨_, rfl⟩
      rw [← ehv23] at hP
      have khv23 : ∀ b o, b ≠ y → h b = some o → hv23 b = some o := by rw [ehv23]; exact fun b o nb hb => (qs_ne nb).trans hb
      replace hms := khv23 _ _ (fun q => by subst q; have := hms.symm.trans hY; first | cases this | simp at this) hms
      replace hmb := khv23 _ _ (fun q => by subst q; have := hmb.symm.trans hY; first | cases this | simp at this) hmb
      replace faw := khv23 _ _ (fun q => by have z9 := faw; rw [q] at z9; have := z9.symm.trans hY; first | cases this | simp at this) faw
      replace fkw := khv23 _ _ (fun q => by have z9 := fkw; rw [q] at z9; have := z9.symm.trans hY; first | cases this | simp at this) fkw
      replace fvw := khv23 _ _ (fun q => by have z9 := fvw; rw [q] at z9; have := z9.symm.trans hY; first | cases this | simp at this) fvw
      replace hY : hv23 y = some (.inr (8, [.ref ms, .ref mb, .ref (ra 28), .int gr, .int (nI 1), .int ca, .int mv, .ref od, .ref pt, .int ct, .int fau, .ref fi, .ref re, .int cs, .ref rc, .ref rs, .ref so, .ref ot, .ref cn, .ref la, .int ce, .ref ro, .int rn])) := by rw [ehv23]; exact qs_self
      clear ehv23
      replace fr := fun b o hb n1 n2 => khv23 b o n1 (fr b o hb n1 n2)
      refine lv_if_eq (tgt := 53) hx hb dX8_list_35 (by decide) (fun c35 => ?_) (fun c35 => ?_)
      · replace c35 : 0 = 0 := (nI_eq (a := 0) (b := 0) (by omega) (by omega)).mp c35
        refine lv_iconst (v := nI 0) hx hb dX8_list_53 (by decide) ?_
        have eX : X = (1, 0, S, (ms, mb, ra 28, od, pt, ro, gr, cd, ca, mv, ct, fau, rn), a, k) := by rw [← hX]; unfold xs_list; rw [if_pos (by simp [ebi])]
        obtain ⟨m8, f8⟩ := hM.fin0 hY0 (h' := hv23) ⟨hRw.1, hRw.2.1, hRw.2.2.1, faw, fkw, fvw⟩ fr
        obtain ⟨q8, r8⟩ := hQ.rowM (o' := oCd (ms, mb, ra 28, od, pt, ro, gr, cd, ca, mv, ct, fau, rn) 1) hY0 hY m8 f8 ⟨rfl, rfl, rfl, rfl, rfl, rfl⟩
        exact q_iret C hP hS ⟨by rw [eX]; rfl, A, by rw [eX]; exact q8, r8⟩ (by omega) dX8_list_54
      · replace c35 : ¬ 0 = 0 := fun zq => c35 ((nI_eq (a := 0) (b := 0) (by omega) (by omega)).mpr zq)
        exfalso; omega
    · replace c5 : ¬ 0 = 0 := fun zq => c5 ((nI_eq (a := 0) (b := 0) (by omega) (by omega)).mpr zq)
      exfalso; omega
