theorem bHo_69 {kd : Int32} (h : kd ∈ [(-1 : Int32), 0, 1, 2, 3, 4, 5, 6]) (e : bHo kd 69 = true) (n : ¬ kd = 6) : kd = 0 ∨ kd = 2 := by
  simp only [List.mem_cons, List.not_mem_nil, or_false] at h
  rcases h with rfl | rfl | rfl | rfl | rfl | rfl | rfl | rfl <;> revert e n <;> decide
/-- does the test fail at one of the keys -/
def xNoT (w : Nat) (c : Int64) (L : qKV) : Bool := L.any (fun p => (xTs w c p.1).isNone)
theorem xNoT_row {w n : Nat} {c : Int64} {kd : Int32} {f g : Nat → Int64} : xNoT w c (qLs kd f g n) = true ↔ ∃ j, j < n ∧ xTs w c (f j) = none := by
  unfold xNoT
  rw [List.any_eq_true]
  constructor
  · rintro ⟨p, hp, e⟩
    obtain ⟨j, hj, rfl⟩ := List.mem_map.mp hp
    exact ⟨j, List.mem_range.mp hj, Option.isNone_iff_eq_none.mp e⟩
  · rintro ⟨j, hj, e⟩
    exact ⟨_, List.mem_of_getElem? (qLs_get2 (kd := kd) (g := g) hj), Option.isNone_iff_eq_none.mpr e⟩
def xFlL (w : Nat) (c : Int64) (L : qKV) : qKV := L.filter (fun p => decide (xTs w c p.1 = some true))
def xr_filter (F : qWo → Nat → Nat × qWo) (S : Nat → qSlot) (W : qWo) (i j q : Nat) (c : Int64) : Int32 × (Nat → qSlot) × qWo :=
  if (S j).1 = 6 then (if oFq (xFilt F q c 1000 (oFa (oCd W.1 0) 0, W.2) (S j).2.2.1).2.1 = 1 then (3, S, (xFilt F q c 1000 (oFa (oCd W.1 0) 0, W.2) (S j).2.2.1).2) else if ¬ oFq (xFilt F q c 1000 (oFa (oCd W.1 0) 0, W.2) (S j).2.2.1).2.1 = 0 ∨ 100 < (S j).2.2.2 + 1 then (4, S, (xFilt F q c 1000 (oFa (oCd W.1 0) 0, W.2) (S j).2.2.1).2) else (0, qU S i ((S j).1, (S j).2.1, (xFilt F q c 1000 (oFa (oCd W.1 0) 0, W.2) (S j).2.2.1).1, (S j).2.2.2 + 1), (xFilt F q c 1000 (oFa (oCd W.1 0) 0, W.2) (S j).2.2.1).2)) else
  if xNoT q c (S j).2.1 = true then (3, S, oFa W.1 1, W.2) else if 20000 < (oMq W.1).toNatClampNeg + (S j).2.1.length then (4, S, oFa W.1 0, W.2) else (0, qU S i ((S j).1, xFlL q c (S j).2.1, (S j).2.2), oMv (oFa W.1 0) (oMq W.1 + nI (S j).2.1.length), W.2)
def xs_filter (F : qWo → Nat → Nat × qWo) (S : Nat → qSlot) (W : qWo) (p0 p1 p2 : Int32) (c : Int64) : Int32 × (Nat → qSlot) × qWo := if bSl p0 = false ∨ bSl p1 = false ∨ p2 < 0 ∨ 4 < p2.toNatClampNeg then (1, S, W) else if bHo (S p1.toNatClampNeg).1 69 = false then (2, S, W) else xr_filter F S W p0.toNatClampNeg p1.toNatClampNeg p2.toNatClampNeg c
theorem dX8_filter_52 : decode cX8_filter 52 = .ok (.aload_n 0, 1) := by decide +kernel
theorem dX8_filter_53 : decode cX8_filter 53 = .ok (.getfield 9, 3) := by decide +kernel
theorem dX8_filter_56 : decode cX8_filter 56 = .ok (.iload_n 2, 1) := by decide +kernel
theorem dX8_filter_57 : decode cX8_filter 57 = .ok (.aaload, 1) := by decide +kernel
theorem dX8_filter_58 : decode cX8_filter 58 = .ok (.astore 6, 2) := by decide +kernel
theorem dX8_filter_60 : decode cX8_filter 60 = .ok (.aload 6, 2) := by decide +kernel
theorem dX8_filter_62 : decode cX8_filter 62 = .ok (.getfield 78, 3) := by decide +kernel
theorem dX8_filter_65 : decode cX8_filter 65 = .ok (.istore 7, 2) := by decide +kernel
theorem dX8_filter_67 : decode cX8_filter 67 = .ok (.aload 6, 2) := by decide +kernel
theorem dX8_filter_69 : decode cX8_filter 69 = .ok (.aload_n 0, 1) := by decide +kernel
theorem dX8_filter_70 : decode cX8_filter 70 = .ok (.getfield 19, 3) := by decide +kernel
theorem dX8_filter_73 : decode cX8_filter 73 = .ok (.invokestatic 104, 3) := by decide +kernel
theorem dX8_filter_76 : decode cX8_filter 76 = .ok (.aload_n 0, 1) := by decide +kernel
theorem dX8_filter_77 : decode cX8_filter 77 = .ok (.iconst 0, 1) := by decide +kernel
theorem dX8_filter_78 : decode cX8_filter 78 = .ok (.putfield 155, 3) := by decide +kernel
theorem dX8_filter_81 : decode cX8_filter 81 = .ok (.aload 6, 2) := by decide +kernel
theorem dX8_filter_83 : decode cX8_filter 83 = .ok (.getfield 75, 3) := by decide +kernel
theorem dX8_filter_86 : decode cX8_filter 86 = .ok (.bipush 6, 2) := by decide +kernel
theorem dX8_filter_88 : decode cX8_filter 88 = .ok (.if_icmp .ne 39, 3) := by decide +kernel
theorem dX8_filter_91 : decode cX8_filter 91 = .ok (.aload_n 0, 1) := by decide +kernel
theorem dX8_filter_92 : decode cX8_filter 92 = .ok (.getfield 19, 3) := by decide +kernel
theorem dX8_filter_95 : decode cX8_filter 95 = .ok (.aload_n 0, 1) := by decide +kernel
theorem dX8_filter_96 : decode cX8_filter 96 = .ok (.aload 6, 2) := by decide +kernel
theorem dX8_filter_98 : decode cX8_filter 98 = .ok (.getfield 81, 3) := by decide +kernel
theorem dX8_filter_101 : decode cX8_filter 101 = .ok (.iload_n 3, 1) := by decide +kernel
theorem dX8_filter_102 : decode cX8_filter 102 = .ok (.lload 4, 2) := by decide +kernel
theorem dX8_filter_104 : decode cX8_filter 104 = .ok (.invokevirtual 209, 3) := by decide +kernel
theorem dX8_filter_107 : decode cX8_filter 107 = .ok (.putfield 81, 3) := by decide +kernel
theorem dX8_filter_110 : decode cX8_filter 110 = .ok (.aload_n 0, 1) := by decide +kernel
theorem dX8_filter_111 : decode cX8_filter 111 = .ok (.getfield 19, 3) := by decide +kernel
theorem dX8_filter_114 : decode cX8_filter 114 = .ok (.aload 6, 2) := by decide +kernel
theorem dX8_filter_116 : decode cX8_filter 116 = .ok (.getfield 84, 3) := by decide +kernel
theorem dX8_filter_119 : decode cX8_filter 119 = .ok (.iconst 1, 1) := by decide +kernel
theorem dX8_filter_120 : decode cX8_filter 120 = .ok (.iadd, 1) := by decide +kernel
theorem dX8_filter_121 : decode cX8_filter 121 = .ok (.putfield 84, 3) := by decide +kernel
theorem dX8_filter_124 : decode cX8_filter 124 = .ok (.goto 71, 3) := by decide +kernel
theorem dX8_filter_127 : decode cX8_filter 127 = .ok (.aload_n 0, 1) := by decide +kernel
theorem dX8_filter_128 : decode cX8_filter 128 = .ok (.getfield 19, 3) := by decide +kernel
theorem dX8_filter_131 : decode cX8_filter 131 = .ok (.iconst 0, 1) := by decide +kernel
theorem dX8_filter_132 : decode cX8_filter 132 = .ok (.putfield 78, 3) := by decide +kernel
theorem dX8_filter_135 : decode cX8_filter 135 = .ok (.iconst 0, 1) := by decide +kernel
theorem dX8_filter_136 : decode cX8_filter 136 = .ok (.istore 8, 2) := by decide +kernel
theorem dX8_filter_138 : decode cX8_filter 138 = .ok (.iload 8, 2) := by decide +kernel
theorem dX8_filter_140 : decode cX8_filter 140 = .ok (.aload 6, 2) := by decide +kernel
theorem dX8_filter_142 : decode cX8_filter 142 = .ok (.getfield 78, 3) := by decide +kernel
theorem dX8_filter_145 : decode cX8_filter 145 = .ok (.if_icmp .ge 50, 3) := by decide +kernel
theorem dX8_filter_148 : decode cX8_filter 148 = .ok (.aload_n 0, 1) := by decide +kernel
theorem dX8_filter_149 : decode cX8_filter 149 = .ok (.iload_n 3, 1) := by decide +kernel
theorem dX8_filter_150 : decode cX8_filter 150 = .ok (.lload 4, 2) := by decide +kernel
theorem dX8_filter_152 : decode cX8_filter 152 = .ok (.aload 6, 2) := by decide +kernel
theorem dX8_filter_154 : decode cX8_filter 154 = .ok (.getfield 90, 3) := by decide +kernel
theorem dX8_filter_157 : decode cX8_filter 157 = .ok (.iload 8, 2) := by decide +kernel
theorem dX8_filter_159 : decode cX8_filter 159 = .ok (.laload, 1) := by decide +kernel
theorem dX8_filter_160 : decode cX8_filter 160 = .ok (.invokevirtual 215, 3) := by decide +kernel
theorem dX8_filter_163 : decode cX8_filter 163 = .ok (.ifCond .eq 26, 3) := by decide +kernel
theorem dX8_filter_166 : decode cX8_filter 166 = .ok (.aload_n 0, 1) := by decide +kernel
theorem dX8_filter_167 : decode cX8_filter 167 = .ok (.getfield 19, 3) := by decide +kernel
theorem dX8_filter_170 : decode cX8_filter 170 = .ok (.aload_n 0, 1) := by decide +kernel
theorem dX8_filter_171 : decode cX8_filter 171 = .ok (.getfield 19, 3) := by decide +kernel
theorem dX8_filter_174 : decode cX8_filter 174 = .ok (.getfield 78, 3) := by decide +kernel
theorem dX8_filter_177 : decode cX8_filter 177 = .ok (.aload 6, 2) := by decide +kernel
theorem dX8_filter_179 : decode cX8_filter 179 = .ok (.getfield 90, 3) := by decide +kernel
theorem dX8_filter_182 : decode cX8_filter 182 = .ok (.iload 8, 2) := by decide +kernel
theorem dX8_filter_184 : decode cX8_filter 184 = .ok (.laload, 1) := by decide +kernel
theorem dX8_filter_185 : decode cX8_filter 185 = .ok (.lconst 0, 1) := by decide +kernel
theorem dX8_filter_186 : decode cX8_filter 186 = .ok (.invokestatic 116, 3) := by decide +kernel
theorem dX8_filter_189 : decode cX8_filter 189 = .ok (.iinc 8 1, 3) := by decide +kernel
theorem dX8_filter_192 : decode cX8_filter 192 = .ok (.goto (-54), 3) := by decide +kernel
theorem dX8_filter_195 : decode cX8_filter 195 = .ok (.aload_n 0, 1) := by decide +kernel
theorem dX8_filter_196 : decode cX8_filter 196 = .ok (.aload_n 0, 1) := by decide +kernel
theorem dX8_filter_197 : decode cX8_filter 197 = .ok (.getfield 155, 3) := by decide +kernel
theorem dX8_filter_200 : decode cX8_filter 200 = .ok (.iconst 1, 1) := by decide +kernel
theorem dX8_filter_201 : decode cX8_filter 201 = .ok (.if_icmp .eq 7, 3) := by decide +kernel
theorem dX8_filter_204 : decode cX8_filter 204 = .ok (.iconst 1, 1) := by decide +kernel
theorem dX8_filter_205 : decode cX8_filter 205 = .ok (.goto 4, 3) := by decide +kernel
theorem dX8_filter_208 : decode cX8_filter 208 = .ok (.iconst 0, 1) := by decide +kernel
theorem dX8_filter_209 : decode cX8_filter 209 = .ok (.iconst 3, 1) := by decide +kernel
theorem dX8_filter_210 : decode cX8_filter 210 = .ok (.invokevirtual 100, 3) := by decide +kernel
theorem dX8_filter_213 : decode cX8_filter 213 = .ok (.ifCond .eq 55, 3) := by decide +kernel
theorem dX8_filter_216 : decode cX8_filter 216 = .ok (.aload_n 0, 1) := by decide +kernel
theorem dX8_filter_217 : decode cX8_filter 217 = .ok (.aload 6, 2) := by decide +kernel
theorem dX8_filter_219 : decode cX8_filter 219 = .ok (.getfield 75, 3) := by decide +kernel
theorem dX8_filter_222 : decode cX8_filter 222 = .ok (.bipush 6, 2) := by decide +kernel
theorem dX8_filter_224 : decode cX8_filter 224 = .ok (.if_icmp .ne 30, 3) := by decide +kernel
theorem dX8_filter_227 : decode cX8_filter 227 = .ok (.aload_n 0, 1) := by decide +kernel
theorem dX8_filter_228 : decode cX8_filter 228 = .ok (.getfield 155, 3) := by decide +kernel
theorem dX8_filter_231 : decode cX8_filter 231 = .ok (.ifCond .ne 19, 3) := by decide +kernel
theorem dX8_filter_234 : decode cX8_filter 234 = .ok (.aload_n 0, 1) := by decide +kernel
theorem dX8_filter_235 : decode cX8_filter 235 = .ok (.getfield 19, 3) := by decide +kernel
theorem dX8_filter_238 : decode cX8_filter 238 = .ok (.getfield 84, 3) := by decide +kernel
theorem dX8_filter_241 : decode cX8_filter 241 = .ok (.bipush 100, 2) := by decide +kernel
theorem dX8_filter_243 : decode cX8_filter 243 = .ok (.if_icmp .gt 7, 3) := by decide +kernel
theorem dX8_filter_246 : decode cX8_filter 246 = .ok (.iconst 1, 1) := by decide +kernel
theorem dX8_filter_247 : decode cX8_filter 247 = .ok (.goto 14, 3) := by decide +kernel
theorem dX8_filter_250 : decode cX8_filter 250 = .ok (.iconst 0, 1) := by decide +kernel
theorem dX8_filter_251 : decode cX8_filter 251 = .ok (.goto 10, 3) := by decide +kernel
theorem dX8_filter_254 : decode cX8_filter 254 = .ok (.aload_n 0, 1) := by decide +kernel
theorem dX8_filter_255 : decode cX8_filter 255 = .ok (.iconst 0, 1) := by decide +kernel
theorem dX8_filter_256 : decode cX8_filter 256 = .ok (.iload 7, 2) := by decide +kernel
theorem dX8_filter_258 : decode cX8_filter 258 = .ok (.invokevirtual 165, 3) := by decide +kernel
theorem dX8_filter_261 : decode cX8_filter 261 = .ok (.iconst 4, 1) := by decide +kernel
theorem dX8_filter_262 : decode cX8_filter 262 = .ok (.invokevirtual 100, 3) := by decide +kernel
theorem dX8_filter_265 : decode cX8_filter 265 = .ok (.ifCond .ne 4, 3) := by decide +kernel
theorem dX8_filter_268 : decode cX8_filter 268 = .ok (.return_, 1) := by decide +kernel
theorem dX8_filter_269 : decode cX8_filter 269 = .ok (.aload_n 0, 1) := by decide +kernel
theorem dX8_filter_270 : decode cX8_filter 270 = .ok (.iload_n 1, 1) := by decide +kernel
theorem dX8_filter_271 : decode cX8_filter 271 = .ok (.aload 6, 2) := by decide +kernel
theorem dX8_filter_273 : decode cX8_filter 273 = .ok (.getfield 75, 3) := by decide +kernel
theorem dX8_filter_276 : decode cX8_filter 276 = .ok (.bipush 6, 2) := by decide +kernel
theorem dX8_filter_278 : decode cX8_filter 278 = .ok (.if_icmp .ne 7, 3) := by decide +kernel
theorem dX8_filter_281 : decode cX8_filter 281 = .ok (.iconst 0, 1) := by decide +kernel
theorem dX8_filter_282 : decode cX8_filter 282 = .ok (.goto 5, 3) := by decide +kernel
theorem dX8_filter_285 : decode cX8_filter 285 = .ok (.iload 7, 2) := by decide +kernel
theorem dX8_filter_287 : decode cX8_filter 287 = .ok (.invokevirtual 135, 3) := by decide +kernel
theorem dX8_filter_290 : decode cX8_filter 290 = .ok (.pop, 1) := by decide +kernel
theorem dX8_filter_291 : decode cX8_filter 291 = .ok (.return_, 1) := by decide +kernel
set_option maxRecDepth 100000 in
set_option maxHeartbeats 4000000 in
theorem w_filter (l : Launch) (D : va_G) (cy : Nat → ClassId) (N0 : Nat) (h : qH) (y ms mb mw od pt fi re rc rs so ot cn la ro : Nat) (gr cd ca mv ct fau cs ce rn : Int32) (ra rk rv : Nat → Nat) (S : Nat → qSlot) (pa : Nat → Nat) (A : Nat → Prop) (a : qWd) (k : qKd) (R : Nat → List Int64) (ad : Nat → Nat) (Rn : Nat) (Bd sl d dc : Nat) (dp : Nat → Nat) (F : qWo → Nat → Nat × qWo) (p0 p1 p2 : Int32) (p3 : Int64) (X : Int32 × (Nat → qSlot) × qWo) (hY : h y = some (.inr (8, [.ref ms, .ref mb, .ref mw, .int gr, .int cd, .int ca, .int mv, .ref od, .ref pt, .int ct, .int fau, .ref fi, .ref re, .int cs, .ref rc, .ref rs, .ref so, .ref ot, .ref cn, .ref la, .int ce, .ref ro, .int rn]))) (hQ : qRF cy h y A ra rk rv pa (ms, mb, mw, od, pt, ro, gr, cd, ca, mv, ct, fau, rn) a k S Rn R ad) (hI : ∀ i, i < 28 → qOk (S i).1 (S i).2.1) (hV : qWv Bd (sl + 1) Rn dp ((ms, mb, mw, od, pt, ro, gr, cd, ca, mv, ct, fau, rn), a, k)) (hB : Bd ≤ 4000) (hF : qFS l D cy N0 y Bd Rn R ad F d) (hG : qFg Bd Rn F d) (hdc : dc < d) (hSt : ∀ i, i < 24 → (S i).1 = 6 → (S i).2.2.1 < a.1 ∧ dp (S i).2.2.1 ≤ dc) (hDp : ∀ i, i < 24 → (S i).2.2.2 ≤ 100) (hX : xs_filter F S ((ms, mb, mw, od, pt, ro, gr, cd, ca, mv, ct, fau, rn), a, k) p0 p1 p2 p3 = X) : qC l D cy N0 yX8_filter cX8_filter 9 none (4 * d + 20) (200 * d + 700) (qP1 X.2.2.2.1 - qP1 a) (qP2 X.2.2.2.1 - qP2 a) [.ref y, .int p0, .int p1, .int p2, .long p3] h (fun v h' => v = none ∧ ∃ A', qRF cy h' y A' ra rk rv pa (oCd X.2.2.1 X.1) X.2.2.2.1 X.2.2.2.2 X.2.1 Rn R ad ∧ qFR h h' y od ra rk rv pa A A') (fun E h' => False) := by
  refine q_ofW (by decide) (by exact Nat.le_of_ble_eq_true rfl) ?_
  intro p e s m below meth c ls C hP hl
  have hx := C.1
  have hb := C.2.1
  have hS : va_S (qA N0) s.heap s.heap [] := va_S.rf
  have hl : lv_has ls 9 [(0, .ref y), (1, .int p0), (2, .int p1), (3, .int p2), (4, .long p3)] := hl
  have hM : qMR cy h ms mb mw ra rk rv S := hQ.2.2.1
  obtain ⟨m0, em0, hm0, hbd0⟩ := id hV.m
  replace em0 : mv = nI m0 := em0
  subst em0
  have ecm : (nI m0).toNatClampNeg = m0 := nI_clamp (by omega)
  dsimp only at hbd0
  have hY0 := hY
  obtain ⟨hms, hmb, hmw, hmd, hrs, kdw, smw, dpw, rww, nw, fw, gw, hRw⟩ := id hM
  subst hmw
  have fr : ∀ b o, h b = some o → b ≠ y → qOf (ra 28) (rk 28) (rv 28) b → h b = some o := fun b o hb _ _ => hb
  have faw := hRw.2.2.2.1
  have fkw := hRw.2.2.2.2.1
  have fvw := hRw.2.2.2.2.2
  unfold qRb at faw
  unfold qJr at fkw fvw
  refine lv_aload_n hx hb dX8_filter_0 rfl (lv_at hl 0 rfl) ?_
  refine lv_iload_n hx hb dX8_filter_1 rfl (lv_at hl 1 rfl) ?_
  refine q_callS (rest := [.ref y]) C (c_X8_isSlot l D cy N0 h p0) kX8_isSlot g1246 g1247 hP hS (by first | decide | omega) hl.1 rfl (by simp [q_catrf, q_cati, q_catl, q_cata, q_catn]) (by first | decide | omega) dX8_filter_2 (fun q ce E h' H1 locs1 hE => hE.elim) (fun v hh1 H locs hq hP hS => ?_)
  obtain ⟨rfl, ⟨rfl, sl9⟩ | ⟨rfl, sl9⟩⟩ := hq
  · obtain ⟨i, hi, rfl⟩ := sl9.of
    have ebi : bSl (nI i) = true := bSl_t sl9
    have eci : (nI i).toNatClampNeg = i := nI_clamp (by omega)
    refine lv_if_eq (tgt := 28) hx hb dX8_filter_5 (by decide) (fun c5 => ?_) (fun c5 => ?_)
    · replace c5 : 1 = 0 := (nI_eq (a := 1) (b := 0) (by omega) (by omega)).mp c5
      exfalso; omega
    · replace c5 : ¬ 1 = 0 := fun zq => c5 ((nI_eq (a := 1) (b := 0) (by omega) (by omega)).mpr zq)
      refine lv_iload_n hx hb dX8_filter_8 rfl (lv_at hl 2 rfl) ?_
      refine q_callS (rest := [.ref y]) C (c_X8_isSlot l D cy N0 h p1) kX8_isSlot g1246 g1247 hP hS (by first | decide | omega) hl.1 rfl (by simp [q_catrf, q_cati, q_catl, q_cata, q_catn]) (by first | decide | omega) dX8_filter_9 (fun q ce E h' H1 locs1 hE => hE.elim) (fun v hh2 H locs hq hP hS => ?_)
      obtain ⟨rfl, ⟨rfl, sl9⟩ | ⟨rfl, sl9⟩⟩ := hq
      · obtain ⟨j, hj, rfl⟩ := sl9.of
        have ebj : bSl (nI j) = true := bSl_t sl9
        have ecj : (nI j).toNatClampNeg = j := nI_clamp (by omega)
        refine lv_if_eq (tgt := 28) hx hb dX8_filter_12 (by decide) (fun c12 => ?_) (fun c12 => ?_)
        · replace c12 : 1 = 0 := (nI_eq (a := 1) (b := 0) (by omega) (by omega)).mp c12
          exfalso; omega
        · replace c12 : ¬ 1 = 0 := fun zq => c12 ((nI_eq (a := 1) (b := 0) (by omega) (by omega)).mpr zq)
          refine lv_iload_n hx hb dX8_filter_15 rfl (lv_at hl 3 rfl) ?_
          refine lv_if_lt (tgt := 28) hx hb dX8_filter_16 (by decide) (fun c16 => ?_) (fun c16 => ?_)
          · refine lv_iconst (v := nI 0) hx hb dX8_filter_28 (by decide) ?_
            refine lv_iconst (v := nI 1) hx hb dX8_filter_29 (by decide) ?_
            refine q_callV (rest := []) C (c_X8_good0 l D cy N0 h y ms mb (ra 28) od pt fi re rc rs so ot cn la ro gr cd ca (nI m0) ct fau cs ce rn (nI 1) hY) kX8_good g1249 g1251 rfl gp41 g4 hP hS hY (by first | decide | omega) hl.1 rfl (by decide) (by first | decide | omega) dX8_filter_30 (fun q ce E h' H1 locs1 hE => hE.elim) (fun v hh3 H locs hq hP hS => ?_)
            obtain ⟨rfl, rfl⟩ := hq
            replace hP : qP D N0 (qs h y (.inr (8, [.ref ms, .ref mb, .ref (ra 28), .int gr, .int (nI 1), .int ca, .int (nI m0), .ref od, .ref pt, .int ct, .int fau, .ref fi, .ref re, .int cs, .ref rc, .ref rs, .ref so, .ref ot, .ref cn, .ref la, .int ce, .ref ro, .int rn]))) H := hP
            obtain ⟨hv1, ehv1⟩ : ∃ z : qH, z = qs h y (.inr (8, [.ref ms, .ref mb, .ref (ra 28), .int gr, .int (nI 1), .int ca, .int (nI m0), .ref od, .ref pt, .int ct, .int fau, .ref fi, .ref re, .int cs, .ref rc, .ref rs, .ref so, .ref ot, .ref cn, .ref la, .int ce, .ref ro, .int rn])) := ⟨_, rfl⟩
            rw [← ehv1] at hP
            have khv1 : ∀ b o, b ≠ y → h b = some o → hv1 b = some o := by rw [ehv1]; exact fun b o nb hb => (qs_ne nb).trans hb
            replace hms := khv1 _ _ (fun q => by subst q; have := hms.symm.trans hY; first | cases this | simp at this) hms
            replace hmb := khv1 _ _ (fun q => by subst q; have := hmb.symm.trans hY; first | cases this | simp at this) hmb
            replace faw := khv1 _ _ (fun q => by have z9 := faw; rw [q] at z9; have := z9.symm.trans hY; first | cases this | simp at this) faw
            replace fkw := khv1 _ _ (fun q => by have z9 := fkw; rw [q] at z9; have := z9.symm.trans hY; first | cases this | simp at this) fkw
            replace fvw := khv1 _ _ (fun q => by have z9 := fvw; rw [q] at z9; have := z9.symm.trans hY; first | cases this | simp at this) fvw
            replace hY : hv1 y = some (.inr (8, [.ref ms, .ref mb, .ref (ra 28), .int gr, .int (nI 1), .int ca, .int (nI m0), .ref od, .ref pt, .int ct, .int fau, .ref fi, .ref re, .int cs, .ref rc, .ref rs, .ref so, .ref ot, .ref cn, .ref la, .int ce, .ref ro, .int rn])) := by rw [ehv1]; exact qs_self
            clear ehv1
            replace fr := fun b o hb n1 n2 => khv1 b o n1 (fr b o hb n1 n2)
            refine lv_if_eq (tgt := 51) hx hb dX8_filter_33 (by decide) (fun c33 => ?_) (fun c33 => ?_)
            · replace c33 : 0 = 0 := (nI_eq (a := 0) (b := 0) (by omega) (by omega)).mp c33
              have eX : X = (1, S, (ms, mb, ra 28, od, pt, ro, gr, cd, ca, nI m0, ct, fau, rn), a, k) := by rw [← hX]; unfold xs_filter; rw [if_pos (Or.inr (Or.inr (Or.inl c16)))]
              obtain ⟨m8, f8⟩ := hM.fin0 hY0 (h' := hv1) ⟨hRw.1, hRw.2.1, hRw.2.2.1, faw, fkw, fvw⟩ fr
              obtain ⟨q8, r8⟩ := hQ.rowM (o' := oCd (ms, mb, ra 28, od, pt, ro, gr, cd, ca, nI m0, ct, fau, rn) 1) hY0 hY m8 f8 ⟨rfl, rfl, rfl, rfl, rfl, rfl⟩
              exact q_vret C hP hS ⟨rfl, A, by rw [eX]; exact q8, r8⟩ (by omega) dX8_filter_51
            · replace c33 : ¬ 0 = 0 := fun zq => c33 ((nI_eq (a := 0) (b := 0) (by omega) (by omega)).mpr zq)
              exfalso; omega
          · obtain ⟨q, hq9, rfl⟩ := nI_of c16
            have ecq : (nI q).toNatClampNeg = q := nI_clamp hq9
            refine lv_iload_n hx hb dX8_filter_19 rfl (lv_at hl 3 rfl) ?_
            refine lv_iconst (v := nI 4) hx hb dX8_filter_20 (by decide) ?_
            refine lv_icmp_gt (tgt := 28) hx hb dX8_filter_21 (by decide) (fun c21 => ?_) (fun c21 => ?_)
            · replace c21 : 4 < q := (nI_ltI (a := 4) (b := q) (by omega) (by omega)).mp c21
              refine lv_iconst (v := nI 0) hx hb dX8_filter_28 (by decide) ?_
              refine lv_iconst (v := nI 1) hx hb dX8_filter_29 (by decide) ?_
              refine q_callV (rest := []) C (c_X8_good0 l D cy N0 h y ms mb (ra 28) od pt fi re rc rs so ot cn la ro gr cd ca (nI m0) ct fau cs ce rn (nI 1) hY) kX8_good g1249 g1251 rfl gp41 g4 hP hS hY (by first | decide | omega) hl.1 rfl (by decide) (by first | decide | omega) dX8_filter_30 (fun q ce E h' H1 locs1 hE => hE.elim) (fun v hh4 H locs hq hP hS => ?_)
              obtain ⟨rfl, rfl⟩ := hq
              replace hP : qP D N0 (qs h y (.inr (8, [.ref ms, .ref mb, .ref (ra 28), .int gr, .int (nI 1), .int ca, .int (nI m0), .ref od, .ref pt, .int ct, .int fau, .ref fi, .ref re, .int cs, .ref rc, .ref rs, .ref so, .ref ot, .ref cn, .ref la, .int ce, .ref ro, .int rn]))) H := hP
              obtain ⟨hv2, ehv2⟩ : ∃ z : qH, z = qs h y (.inr (8, [.ref ms, .ref mb, .ref (ra 28), .int gr, .int (nI 1), .int ca, .int (nI m0), .ref od, .ref pt, .int ct, .int fau, .ref fi, .ref re, .int cs, .ref rc, .ref rs, .ref so, .ref ot, .ref cn, .ref la, .int ce, .ref ro, .int rn])) := ⟨_, rfl⟩
              rw [← ehv2] at hP
              have khv2 : ∀ b o, b ≠ y → h b = some o → hv2 b = some o := by rw [ehv2]; exact fun b o nb hb => (qs_ne nb).trans hb
              replace hms := khv2 _ _ (fun q => by subst q; have := hms.symm.trans hY; first | cases this | simp at this) hms
              replace hmb := khv2 _ _ (fun q => by subst q; have := hmb.symm.trans hY; first | cases this | simp at this) hmb
              replace faw := khv2 _ _ (fun q => by have z9 := faw; rw [q] at z9; have := z9.symm.trans hY; first | cases this | simp at this) faw
              replace fkw := khv2 _ _ (fun q => by have z9 := fkw; rw [q] at z9; have := z9.symm.trans hY; first | cases this | simp at this) fkw
              replace fvw := khv2 _ _ (fun q => by have z9 := fvw; rw [q] at z9; have := z9.symm.trans hY; first | cases this | simp at this) fvw
              replace hY : hv2 y = some (.inr (8, [.ref ms, .ref mb, .ref (ra 28), .int gr, .int (nI 1), .int ca, .int (nI m0), .ref od, .ref pt, .int ct, .int fau, .ref fi, .ref re, .int cs, .ref rc, .ref rs, .ref so, .ref ot, .ref cn, .ref la, .int ce, .ref ro, .int rn])) := by rw [ehv2]; exact qs_self
              clear ehv2
              replace fr := fun b o hb n1 n2 => khv2 b o n1 (fr b o hb n1 n2)
              refine lv_if_eq (tgt := 51) hx hb dX8_filter_33 (by decide) (fun c33 => ?_) (fun c33 => ?_)
              · replace c33 : 0 = 0 := (nI_eq (a := 0) (b := 0) (by omega) (by omega)).mp c33
                have eX : X = (1, S, (ms, mb, ra 28, od, pt, ro, gr, cd, ca, nI m0, ct, fau, rn), a, k) := by rw [← hX]; unfold xs_filter; rw [if_pos (Or.inr (Or.inr (Or.inr (by rw [ecq]; omega))))]
                obtain ⟨m8, f8⟩ := hM.fin0 hY0 (h' := hv2) ⟨hRw.1, hRw.2.1, hRw.2.2.1, faw, fkw, fvw⟩ fr
                obtain ⟨q8, r8⟩ := hQ.rowM (o' := oCd (ms, mb, ra 28, od, pt, ro, gr, cd, ca, nI m0, ct, fau, rn) 1) hY0 hY m8 f8 ⟨rfl, rfl, rfl, rfl, rfl, rfl⟩
                exact q_vret C hP hS ⟨rfl, A, by rw [eX]; exact q8, r8⟩ (by omega) dX8_filter_51
              · replace c33 : ¬ 0 = 0 := fun zq => c33 ((nI_eq (a := 0) (b := 0) (by omega) (by omega)).mpr zq)
                exfalso; omega
            · replace c21 : ¬ 4 < q := fun zq => c21 ((nI_ltI (a := 4) (b := q) (by omega) (by omega)).mpr zq)
              refine lv_iconst (v := nI 1) hx hb dX8_filter_24 (by decide) ?_
              refine lv_goto (tgt := 29) hx hb dX8_filter_25 (by decide) ?_
              refine lv_iconst (v := nI 1) hx hb dX8_filter_29 (by decide) ?_
              refine q_callV (rest := []) C (c_X8_good1 l D cy N0 h y ms mb (ra 28) od pt fi re rc rs so ot cn la ro gr cd ca (nI m0) ct fau cs ce rn (nI 1) hY) kX8_good g1249 g1251 rfl gp41 g4 hP hS hY (by first | decide | omega) hl.1 rfl (by decide) (by first | decide | omega) dX8_filter_30 (fun q ce E h' H1 locs1 hE => hE.elim) (fun v hh5 H locs hq hP hS => ?_)
              obtain ⟨rfl, rfl⟩ := hq
              replace hP : qP D N0 (qs h y (.inr (8, [.ref ms, .ref mb, .ref (ra 28), .int gr, .int 0, .int ca, .int (nI m0), .ref od, .ref pt, .int ct, .int fau, .ref fi, .ref re, .int cs, .ref rc, .ref rs, .ref so, .ref ot, .ref cn, .ref la, .int ce, .ref ro, .int rn]))) H := hP
              obtain ⟨hv3, ehv3⟩ : ∃ z : qH, z = qs h y (.inr (8, [.ref ms, .ref mb, .ref (ra 28), .int gr, .int 0, .int ca, .int (nI m0), .ref od, .ref pt, .int ct, .int fau, .ref fi, .ref re, .int cs, .ref rc, .ref rs, .ref so, .ref ot, .ref cn, .ref la, .int ce, .ref ro, .int rn])) := ⟨_, rfl⟩
              rw [← ehv3] at hP
              have khv3 : ∀ b o, b ≠ y → h b = some o → hv3 b = some o := by rw [ehv3]; exact fun b o nb hb => (qs_ne nb).trans hb
              replace hms := khv3 _ _ (fun q => by subst q; have := hms.symm.trans hY; first | cases this | simp at this) hms
              replace hmb := khv3 _ _ (fun q => by subst q; have := hmb.symm.trans hY; first | cases this | simp at this) hmb
              replace faw := khv3 _ _ (fun q => by have z9 := faw; rw [q] at z9; have := z9.symm.trans hY; first | cases this | simp at this) faw
              replace fkw := khv3 _ _ (fun q => by have z9 := fkw; rw [q] at z9; have := z9.symm.trans hY; first | cases this | simp at this) fkw
              replace fvw := khv3 _ _ (fun q => by have z9 := fvw; rw [q] at z9; have := z9.symm.trans hY; first | cases this | simp at this) fvw
              replace hY : hv3 y = some (.inr (8, [.ref ms, .ref mb, .ref (ra 28), .int gr, .int 0, .int ca, .int (nI m0), .ref od, .ref pt, .int ct, .int fau, .ref fi, .ref re, .int cs, .ref rc, .ref rs, .ref so, .ref ot, .ref cn, .ref la, .int ce, .ref ro, .int rn])) := by rw [ehv3]; exact qs_self
              clear ehv3
              replace fr := fun b o hb n1 n2 => khv3 b o n1 (fr b o hb n1 n2)
              refine lv_if_eq (tgt := 51) hx hb dX8_filter_33 (by decide) (fun c33 => ?_) (fun c33 => ?_)
              · replace c33 : 1 = 0 := (nI_eq (a := 1) (b := 0) (by omega) (by omega)).mp c33
                exfalso; omega
              · replace c33 : ¬ 1 = 0 := fun zq => c33 ((nI_eq (a := 1) (b := 0) (by omega) (by omega)).mpr zq)
                refine lv_aload_n hx hb dX8_filter_36 rfl (lv_at hl 0 rfl) ?_
                refine lv_aload_n hx hb dX8_filter_37 rfl (lv_at hl 0 rfl) ?_
                refine lv_iload_n hx hb dX8_filter_38 rfl (lv_at hl 2 rfl) ?_
                refine lv_bipush (v := nI 69) hx hb dX8_filter_39 (by decide) ?_
                obtain ⟨nj, rwj, Fj, Gj, hRj, hnj, hLj, hKj⟩ := hrs j (by omega)
                have apj := hRj.apart hRw (hmd.two (i := j) (j := 28) (by omega) (by omega) (by omega))
                replace hRj := hRj.keep2 (fun b o hb ho => fr b o ho (hRj.ney hY0 hb) (hb.elim (fun q => q ▸ apj.1) (fun hb => hb.elim (fun q => q ▸ apj.2.1) (fun q => q ▸ apj.2.2))))
                have faj := hRj.2.2.2.1
                have fkj := hRj.2.2.2.2.1
                have fvj := hRj.2.2.2.2.2
                unfold qRb at faj
                unfold qJr at fkj fvj
                refine q_callV (rest := [.ref y]) C (c_X8_holds l D cy N0 hv3 y ms ra rk rv j 69 _ _ _ _ _ _ _ _ hY rfl hms ⟨hRj.1, hRj.2.1, hRj.2.2.1, faj, fkj, fvj⟩ (by omega)) kX8_holds g1264 g1266 rfl gp42 g4 hP hS hY (by first | decide | omega) hl.1 rfl (by simp [q_catrf, q_cati, q_catl, q_cata, q_catn]) (by first | decide | omega) dX8_filter_41 (fun q ce E h' H1 locs1 hE => hE.elim) (fun v hh6 H locs hq hP hS => ?_)
                obtain ⟨rfl, rfl⟩ := hq
                cases hoj : bHo (S j).1 69 with
                | false =>
                  refine lv_iconst (v := nI 2) hx hb dX8_filter_44 (by decide) ?_
                  refine q_callV (rest := []) C (c_X8_good0 l D cy N0 hv3 y ms mb (ra 28) od pt fi re rc rs so ot cn la ro gr 0 ca (nI m0) ct fau cs ce rn (nI 2) hY) kX8_good g1249 g1251 rfl gp41 g4 hP hS hY (by first | decide | omega) hl.1 rfl (by decide) (by first | decide | omega) dX8_filter_45 (fun q ce E h' H1 locs1 hE => hE.elim) (fun v hh7 H locs hq hP hS => ?_)
                  obtain ⟨rfl, rfl⟩ := hq
                  replace hP : qP D N0 (qs hv3 y (.inr (8, [.ref ms, .ref mb, .ref (ra 28), .int gr, .int (nI 2), .int ca, .int (nI m0), .ref od, .ref pt, .int ct, .int fau, .ref fi, .ref re, .int cs, .ref rc, .ref rs, .ref so, .ref ot, .ref cn, .ref la, .int ce, .ref ro, .int rn]))) H := hP
                  obtain ⟨hv4, ehv4⟩ : ∃ z : qH, z = qs hv3 y (.inr (8, [.ref ms, .ref mb, .ref (ra 28), .int gr, .int (nI 2), .int ca, .int (nI m0), .ref od, .ref pt, .int ct, .int fau, .ref fi, .ref re, .int cs, .ref rc, .ref rs, .ref so, .ref ot, .ref cn, .ref la, .int ce, .ref ro, .int rn])) := ⟨_, rfl⟩
                  rw [← ehv4] at hP
                  have khv4 : ∀ b o, b ≠ y → hv3 b = some o → hv4 b = some o := by rw [ehv4]; exact fun b o nb hb => (qs_ne nb).trans hb
                  replace hms := khv4 _ _ (fun q => by subst q; have := hms.symm.trans hY; first | cases this | simp at this) hms
                  replace hmb := khv4 _ _ (fun q => by subst q; have := hmb.symm.trans hY; first | cases this | simp at this) hmb
                  replace faw := khv4 _ _ (fun q => by have z9 := faw; rw [q] at z9; have := z9.symm.trans hY; first | cases this | simp at this) faw
                  replace fkw := khv4 _ _ (fun q => by have z9 := fkw; rw [q] at z9; have := z9.symm.trans hY; first | cases this | simp at this) fkw
                  replace fvw := khv4 _ _ (fun q => by have z9 := fvw; rw [q] at z9; have := z9.symm.trans hY; first | cases this | simp at this) fvw
                  replace faj := khv4 _ _ (fun q => by have z9 := faj; rw [q] at z9; have := z9.symm.trans hY; first | cases this | simp at this) faj
                  replace fkj := khv4 _ _ (fun q => by have z9 := fkj; rw [q] at z9; have := z9.symm.trans hY; first | cases this | simp at this) fkj
                  replace fvj := khv4 _ _ (fun q => by have z9 := fvj; rw [q] at z9; have := z9.symm.trans hY; first | cases this | simp at this) fvj
                  replace hY : hv4 y = some (.inr (8, [.ref ms, .ref mb, .ref (ra 28), .int gr, .int (nI 2), .int ca, .int (nI m0), .ref od, .ref pt, .int ct, .int fau, .ref fi, .ref re, .int cs, .ref rc, .ref rs, .ref so, .ref ot, .ref cn, .ref la, .int ce, .ref ro, .int rn])) := by rw [ehv4]; exact qs_self
                  clear ehv4
                  replace fr := fun b o hb n1 n2 => khv4 b o n1 (fr b o hb n1 n2)
                  refine lv_if_ne (tgt := 52) hx hb dX8_filter_48 (by decide) (fun c48 => ?_) (fun c48 => ?_)
                  · replace c48 : ¬ 0 = 0 := fun zq => c48 ((nI_eq (a := 0) (b := 0) (by omega) (by omega)).mpr zq)
                    exfalso; omega
                  · replace c48 : 0 = 0 := (nI_eq (a := 0) (b := 0) (by omega) (by omega)).mp c48
                    have eX : X = (2, S, (ms, mb, ra 28, od, pt, ro, gr, cd, ca, nI m0, ct, fau, rn), a, k) := by rw [← hX]; unfold xs_filter; rw [if_neg (by rw [ebi, ebj, ecq]; exact fun z => z.elim (fun z => by cases z) (fun z => z.elim (fun z => by cases z) (fun z => z.elim c16 (fun z => by omega)))), ecj, if_pos hoj]
                    obtain ⟨m8, f8⟩ := hM.fin0 hY0 (h' := hv4) ⟨hRw.1, hRw.2.1, hRw.2.2.1, faw, fkw, fvw⟩ fr
                    obtain ⟨q8, r8⟩ := hQ.rowM (o' := oCd (ms, mb, ra 28, od, pt, ro, gr, cd, ca, nI m0, ct, fau, rn) 2) hY0 hY m8 f8 ⟨rfl, rfl, rfl, rfl, rfl, rfl⟩
                    exact q_vret C hP hS ⟨rfl, A, by rw [eX]; exact q8, r8⟩ (by omega) dX8_filter_51
                | true =>
                  refine lv_iconst (v := nI 2) hx hb dX8_filter_44 (by decide) ?_
                  refine q_callV (rest := []) C (c_X8_good1 l D cy N0 hv3 y ms mb (ra 28) od pt fi re rc rs so ot cn la ro gr 0 ca (nI m0) ct fau cs ce rn (nI 2) hY) kX8_good g1249 g1251 rfl gp41 g4 hP hS hY (by first | decide | omega) hl.1 rfl (by decide) (by first | decide | omega) dX8_filter_45 (fun q ce E h' H1 locs1 hE => hE.elim) (fun v hh8 H locs hq hP hS => ?_)
                  obtain ⟨rfl, rfl⟩ := hq
                  replace hP : qP D N0 (qs hv3 y (.inr (8, [.ref ms, .ref mb, .ref (ra 28), .int gr, .int 0, .int ca, .int (nI m0), .ref od, .ref pt, .int ct, .int fau, .ref fi, .ref re, .int cs, .ref rc, .ref rs, .ref so, .ref ot, .ref cn, .ref la, .int ce, .ref ro, .int rn]))) H := hP
                  obtain ⟨hv5, ehv5⟩ : ∃ z : qH, z = qs hv3 y (.inr (8, [.ref ms, .ref mb, .ref (ra 28), .int gr, .int 0, .int ca, .int (nI m0), .ref od, .ref pt, .int ct, .int fau, .ref fi, .ref re, .int cs, .ref rc, .ref rs, .ref so, .ref ot, .ref cn, .ref la, .int ce, .ref ro, .int rn])) := ⟨_, rfl⟩
                  rw [← ehv5] at hP
                  have khv5 : ∀ b o, b ≠ y → hv3 b = some o → hv5 b = some o := by rw [ehv5]; exact fun b o nb hb => (qs_ne nb).trans hb
                  replace hms := khv5 _ _ (fun q => by subst q; have := hms.symm.trans hY; first | cases this | simp at this) hms
                  replace hmb := khv5 _ _ (fun q => by subst q; have := hmb.symm.trans hY; first | cases this | simp at this) hmb
                  replace faw := khv5 _ _ (fun q => by have z9 := faw; rw [q] at z9; have := z9.symm.trans hY; first | cases this | simp at this) faw
                  replace fkw := khv5 _ _ (fun q => by have z9 := fkw; rw [q] at z9; have := z9.symm.trans hY; first | cases this | simp at this) fkw
                  replace fvw := khv5 _ _ (fun q => by have z9 := fvw; rw [q] at z9; have := z9.symm.trans hY; first | cases this | simp at this) fvw
                  replace faj := khv5 _ _ (fun q => by have z9 := faj; rw [q] at z9; have := z9.symm.trans hY; first | cases this | simp at this) faj
                  replace fkj := khv5 _ _ (fun q => by have z9 := fkj; rw [q] at z9; have := z9.symm.trans hY; first | cases this | simp at this) fkj
                  replace fvj := khv5 _ _ (fun q => by have z9 := fvj; rw [q] at z9; have := z9.symm.trans hY; first | cases this | simp at this) fvj
                  replace hY : hv5 y = some (.inr (8, [.ref ms, .ref mb, .ref (ra 28), .int gr, .int 0, .int ca, .int (nI m0), .ref od, .ref pt, .int ct, .int fau, .ref fi, .ref re, .int cs, .ref rc, .ref rs, .ref so, .ref ot, .ref cn, .ref la, .int ce, .ref ro, .int rn])) := by rw [ehv5]; exact qs_self
                  clear ehv5
                  replace fr := fun b o hb n1 n2 => khv5 b o n1 (fr b o hb n1 n2)
                  refine lv_if_ne (tgt := 52) hx hb dX8_filter_48 (by decide) (fun c48 => ?_) (fun c48 => ?_)
                  · replace c48 : ¬ 1 = 0 := fun zq => c48 ((nI_eq (a := 1) (b := 0) (by omega) (by omega)).mpr zq)
                    refine lv_aload_n hx hb dX8_filter_52 rfl (lv_at hl 0 rfl) ?_
                    refine q_get C hP hY rfl inX8 0 (by decide) g1167 rfl dX8_filter_53 ?_
                    refine lv_iload_n hx hb dX8_filter_56 rfl (lv_at hl 2 rfl) ?_
                    refine q_aaldR C hP hms rfl (by omega) (by omega) rfl dX8_filter_57 ?_
                    refine lv_astore (lv' := [(6, .ref (ra j)), (0, .ref y), (1, .int (nI i)), (2, .int (nI j)), (3, .int (nI q)), (4, .long p3)]) hx hb dX8_filter_58 hl (by decide) rfl (fun ls hl => ?_)
                    refine lv_aload hx hb dX8_filter_60 (lv_at hl 0 rfl) ?_
                    refine q_get C hP faj rfl inX7 3 (by decide) g1143 rfl dX8_filter_62 ?_
                    refine lv_istore (lv' := [(7, .int (nI nj)), (6, .ref (ra j)), (0, .ref y), (1, .int (nI i)), (2, .int (nI j)), (3, .int (nI q)), (4, .long p3)]) hx hb dX8_filter_65 hl (by decide) rfl (fun ls hl => ?_)
                    refine lv_aload hx hb dX8_filter_67 (lv_at hl 1 rfl) ?_
                    refine lv_aload_n hx hb dX8_filter_69 rfl (lv_at hl 2 rfl) ?_
                    refine q_get C hP hY rfl inX8 2 (by decide) g1169 rfl dX8_filter_70 ?_
                    refine q_callS (rest := []) C (c_X8_copy l D cy N0 hv5 (ra j) (rk j) (rv j) (S j).1 (nI (S j).2.2.1) (nI (S j).2.2.2) rwj nj Fj Gj (ra 28) (rk 28) (rv 28) kdw smw dpw rww nw fw gw ⟨hRj.1, hRj.2.1, hRj.2.2.1, faj, fkj, fvj⟩ ⟨hRw.1, hRw.2.1, hRw.2.2.1, faw, fkw, fvw⟩ apj (by omega)) kX8_copy g1257 g1258 hP hS (by first | decide | omega) hl.1 rfl (by decide) (by first | decide | omega) dX8_filter_73 (fun q ce E h' H1 locs1 hE => hE.elim) (fun v hh9 H locs hq hP hS => ?_)
                    obtain ⟨rfl, rfl⟩ := hq
                    obtain ⟨hv6, ehv6⟩ : ∃ z : qH, z = qRh cy hv5 (ra 28) (rk 28) (rv 28) ((S j).1) (nI nj) (nI (S j).2.2.1) (nI (S j).2.2.2) rwj (qCp Fj fw nj) (qCp Gj gw nj) := ⟨_, rfl⟩
                    rw [← ehv6] at hP
                    have r9 : qRw cy hv6 (ra 28) (rk 28) (rv 28) ((S j).1) (nI nj) (nI (S j).2.2.1) (nI (S j).2.2.2) rwj (qCp Fj fw nj) (qCp Gj gw nj) := by rw [ehv6]; exact qRw.new (cy := cy) (h := hv5) (kd := kdw) (n := (nI nw)) (sm := smw) (dp := dpw) (rw := rww) (f := fw) (g := gw) ⟨hRw.1, hRw.2.1, hRw.2.2.1, faw, fkw, fvw⟩
                    have khv6 : ∀ b o, qOf (ra 28) (rk 28) (rv 28) b → hv5 b = some o → hv6 b = some o := by rw [ehv6]; exact fun b o q hb => (qRh_o q.1 q.2.1 q.2.2).trans hb
                    replace hY := khv6 _ _ ⟨fun q => by rw [q] at hY; have := faw.symm.trans hY; first | cases this | simp at this, fun q => by rw [q] at hY; have := fkw.symm.trans hY; first | cases this | simp at this, fun q => by rw [q] at hY; have := fvw.symm.trans hY; first | cases this | simp at this⟩ hY
                    replace hms := khv6 _ _ ⟨fun q => by rw [q] at hms; have := faw.symm.trans hms; first | cases this | simp at this, fun q => by rw [q] at hms; have := fkw.symm.trans hms; first | cases this | simp at this, fun q => by rw [q] at hms; have := fvw.symm.trans hms; first | cases this | simp at this⟩ hms
                    replace hmb := khv6 _ _ ⟨fun q => by rw [q] at hmb; have := faw.symm.trans hmb; first | cases this | simp at this, fun q => by rw [q] at hmb; have := fkw.symm.trans hmb; first | cases this | simp at this, fun q => by rw [q] at hmb; have := fvw.symm.trans hmb; first | cases this | simp at this⟩ hmb
                    replace faj := khv6 _ _ apj.1 faj
                    replace fkj := khv6 _ _ apj.2.1 fkj
                    replace fvj := khv6 _ _ apj.2.2 fvj
                    replace fr := fun b o hb n1 n2 => khv6 b o n2 (fr b o hb n1 n2)
                    clear faw fkw fvw
                    have faw := r9.2.2.2.1
                    have fkw := r9.2.2.2.2.1
                    have fvw := r9.2.2.2.2.2
                    unfold qRb at faw
                    unfold qJr at fkw fvw
                    clear r9 ehv6
                    have lw : qLs ((S j).1) (qCp Fj fw nj) (qCp Gj gw nj) nj = (S j).2.1 := by rw [qLs_cp]; exact hLj.symm
                    refine lv_aload_n hx hb dX8_filter_76 rfl (lv_at hl 2 rfl) ?_
                    refine lv_iconst (v := nI 0) hx hb dX8_filter_77 (by decide) ?_
                    refine q_put C hP hS hY rfl inX8 tyX8 tyX8_ok nmX8 10 (by decide) g1177 rfl rfl rfl (Nat.le_of_ble_eq_true rfl) dX8_filter_78 (fun H locs hP hS => ?_)
                    replace hP : qP D N0 (qs hv6 y (.inr (8, [.ref ms, .ref mb, .ref (ra 28), .int gr, .int 0, .int ca, .int (nI m0), .ref od, .ref pt, .int ct, .int (nI 0), .ref fi, .ref re, .int cs, .ref rc, .ref rs, .ref so, .ref ot, .ref cn, .ref la, .int ce, .ref ro, .int rn]))) H := hP
                    obtain ⟨hv7, ehv7⟩ : ∃ z : qH, z = qs hv6 y (.inr (8, [.ref ms, .ref mb, .ref (ra 28), .int gr, .int 0, .int ca, .int (nI m0), .ref od, .ref pt, .int ct, .int (nI 0), .ref fi, .ref re, .int cs, .ref rc, .ref rs, .ref so, .ref ot, .ref cn, .ref la, .int ce, .ref ro, .int rn])) := ⟨_, rfl⟩
                    rw [← ehv7] at hP
                    have khv7 : ∀ b o, b ≠ y → hv6 b = some o → hv7 b = some o := by rw [ehv7]; exact fun b o nb hb => (qs_ne nb).trans hb
                    replace hms := khv7 _ _ (fun q => by subst q; have := hms.symm.trans hY; first | cases this | simp at this) hms
                    replace hmb := khv7 _ _ (fun q => by subst q; have := hmb.symm.trans hY; first | cases this | simp at this) hmb
                    replace faw := khv7 _ _ (fun q => by have z9 := faw; rw [q] at z9; have := z9.symm.trans hY; first | cases this | simp at this) faw
                    replace fkw := khv7 _ _ (fun q => by have z9 := fkw; rw [q] at z9; have := z9.symm.trans hY; first | cases this | simp at this) fkw
                    replace fvw := khv7 _ _ (fun q => by have z9 := fvw; rw [q] at z9; have := z9.symm.trans hY; first | cases this | simp at this) fvw
                    replace faj := khv7 _ _ (fun q => by have z9 := faj; rw [q] at z9; have := z9.symm.trans hY; first | cases this | simp at this) faj
                    replace fkj := khv7 _ _ (fun q => by have z9 := fkj; rw [q] at z9; have := z9.symm.trans hY; first | cases this | simp at this) fkj
                    replace fvj := khv7 _ _ (fun q => by have z9 := fvj; rw [q] at z9; have := z9.symm.trans hY; first | cases this | simp at this) fvj
                    replace hY : hv7 y = some (.inr (8, [.ref ms, .ref mb, .ref (ra 28), .int gr, .int 0, .int ca, .int (nI m0), .ref od, .ref pt, .int ct, .int (nI 0), .ref fi, .ref re, .int cs, .ref rc, .ref rs, .ref so, .ref ot, .ref cn, .ref la, .int ce, .ref ro, .int rn])) := by rw [ehv7]; exact qs_self
                    clear ehv7
                    replace fr := fun b o hb n1 n2 => khv7 b o n1 (fr b o hb n1 n2)
                    refine lv_aload hx hb dX8_filter_81 (lv_at hl 1 rfl) ?_
                    refine q_get C hP faj rfl inX7 2 (by decide) g1142 rfl dX8_filter_83 ?_
                    refine lv_bipush (v := 6) hx hb dX8_filter_86 (by decide) ?_
                    refine lv_icmp_ne (tgt := 127) hx hb dX8_filter_88 (by decide) (fun c88 => ?_) (fun c88 => ?_)
                    · refine lv_aload_n hx hb dX8_filter_127 rfl (lv_at hl 2 rfl) ?_
                      refine q_get C hP hY rfl inX8 2 (by decide) g1169 rfl dX8_filter_128 ?_
                      refine lv_iconst (v := nI 0) hx hb dX8_filter_131 (by decide) ?_
                      refine q_put C hP hS faw rfl inX7 tyX7 tyX7_ok nmX7 3 (by decide) g1143 rfl rfl rfl (Nat.le_of_ble_eq_true rfl) dX8_filter_132 (fun H locs hP hS => ?_)
                      replace hP : qP D N0 (qs hv7 (ra 28) (.inr (7, [.ref (rk 28), .ref (rv 28), .int (S j).1, .int (nI 0), .int (nI (S j).2.2.1), .int (nI (S j).2.2.2), .int rwj]))) H := hP
                      obtain ⟨hv8, ehv8⟩ : ∃ z : qH, z = qs hv7 (ra 28) (.inr (7, [.ref (rk 28), .ref (rv 28), .int (S j).1, .int (nI 0), .int (nI (S j).2.2.1), .int (nI (S j).2.2.2), .int rwj])) := ⟨_, rfl⟩
                      rw [← ehv8] at hP
                      have khv8 : ∀ b o, b ≠ (ra 28) → hv7 b = some o → hv8 b = some o := by rw [ehv8]; exact fun b o nb hb => (qs_ne nb).trans hb
                      replace hY := khv8 _ _ (fun q => by have z9 := hY; rw [q] at z9; have := z9.symm.trans faw; first | cases this | simp at this) hY
                      replace hms := khv8 _ _ (fun q => by have z9 := hms; rw [q] at z9; have := z9.symm.trans faw; first | cases this | simp at this) hms
                      replace hmb := khv8 _ _ (fun q => by have z9 := hmb; rw [q] at z9; have := z9.symm.trans faw; first | cases this | simp at this) hmb
                      replace fkw := khv8 _ _ (fun q => by have z9 := fkw; rw [q] at z9; have := z9.symm.trans faw; first | cases this | simp at this) fkw
                      replace fvw := khv8 _ _ (fun q => by have z9 := fvw; rw [q] at z9; have := z9.symm.trans faw; first | cases this | simp at this) fvw
                      replace faj := khv8 _ _ apj.1.1 faj
                      replace fkj := khv8 _ _ apj.2.1.1 fkj
                      replace fvj := khv8 _ _ apj.2.2.1 fvj
                      replace faw : hv8 (ra 28) = some (.inr (7, [.ref (rk 28), .ref (rv 28), .int (S j).1, .int (nI 0), .int (nI (S j).2.2.1), .int (nI (S j).2.2.2), .int rwj])) := by rw [ehv8]; exact qs_self
                      clear ehv8
                      replace fr := fun b o hb n1 n2 => khv8 b o n2.1 (fr b o hb n1 n2)
                      refine lv_iconst (v := nI 0) hx hb dX8_filter_135 (by decide) ?_
                      refine lv_istore (lv' := [(8, .int (nI 0)), (7, .int (nI nj)), (6, .ref (ra j)), (0, .ref y), (1, .int (nI i)), (2, .int (nI j)), (3, .int (nI q)), (4, .long p3)]) hx hb dX8_filter_136 hl (by decide) rfl (fun ls hl => ?_)
                      have ek0 := bHo_69 (hI j (by omega)).2.2 hoj c88
                      have exv : ∀ v, xV (S j).1 v = 0 := fun v => if_neg (fun z => by rcases ek0 with z2 | z2 <;> rw [z2] at z <;> revert z <;> decide)
                      have hlen : (S j).2.1.length = nj := by rw [hLj, qLs_len]
                      clear lw
                      refine (?_ : ∀ (t : Nat) (H : Heap) (locs : List Loc) (ls : Array Slot) (hv0 : qH) (fW gW : Nat → Int64) (nW ii : Nat) (zf : Int32), nj - ii < t → hv0 y = some (.inr (8, [.ref ms, .ref mb, .ref (ra 28), .int gr, .int 0, .int ca, .int (nI m0), .ref od, .ref pt, .int ct, .int zf, .ref fi, .ref re, .int cs, .ref rc, .ref rs, .ref so, .ref ot, .ref cn, .ref la, .int ce, .ref ro, .int rn])) → hv0 ms = some (.inl (cy 5, 24, .inr (.inr (.inr (.inr (fun i => some (ra i))))))) → hv0 mb = some (.inl (cy 5, 4, .inr (.inr (.inr (.inr (fun i => some (ra (24 + i)))))))) → hv0 (ra 28) = some (.inr (7, [.ref (rk 28), .ref (rv 28), .int (S j).1, .int (nI nW), .int (nI (S j).2.2.1), .int (nI (S j).2.2.2), .int rwj])) → hv0 (rk 28) = some (.inl (cy 1, 1001, .inr (.inl fW))) → hv0 (rv 28) = some (.inl (cy 1, 1001, .inr (.inl gW))) → hv0 (ra j) = some (.inr (7, [.ref (rk j), .ref (rv j), .int (S j).1, .int (nI nj), .int (nI (S j).2.2.1), .int (nI (S j).2.2.2), .int rwj])) → hv0 (rk j) = some (.inl (cy 1, 1001, .inr (.inl Fj))) → hv0 (rv j) = some (.inl (cy 1, 1001, .inr (.inl Gj))) → (∀ b o, h b = some o → b ≠ y → qOf (ra 28) (rk 28) (rv 28) b → hv0 b = some o) → qLs (S j).1 fW gW nW = xFlL q p3 (qLs (S j).1 Fj Gj ii) → ((zf = nI 0 ∧ ∀ q9, q9 < ii → ¬ xTs q p3 (Fj q9) = none) ∨ (zf = nI 1 ∧ ∃ q9, q9 < ii ∧ xTs q p3 (Fj q9) = none)) → nW ≤ ii ∧ ii ≤ nj → lv_has ls 9 [(8, .int (nI ii)), (7, .int (nI nj)), (6, .ref (ra j)), (4, .long p3), (3, .int (nI q)), (0, .ref y), (1, .int (nI i))] → qP D N0 hv0 H → va_S (qA N0) s.heap H locs → W p l e _ s m _ below meth c H locs 0 0 _ (F0 m 138 ls [])) _ H locs ls hv8 (qCp Fj fw nj) (qCp Gj gw nj) 0 0 (nI 0) (Nat.lt_succ_self _) hY hms hmb faw fkw fvw faj fkj fvj fr rfl (Or.inl ⟨rfl, fun q9 z => absurd z (Nat.not_lt_zero _)⟩) ⟨Nat.le_refl _, Nat.zero_le _⟩ (lv_sub hl [0, 1, 2, 7, 6, 3, 4] rfl) hP hS
                      clear hl hP hS
                      intro t
                      induction t with
                      | zero => intro H locs ls hv0 fW gW nW ii zf ht; exact absurd ht (Nat.not_lt_zero _)
                      | succ t ihl =>
                        intro H locs ls hv0 fW gW nW ii zf ht hY hms hmb faw fkw fvw faj fkj fvj fr lw hzf hii hl hP hS
                        refine lv_iload hx hb dX8_filter_138 (lv_at hl 0 rfl) ?_
                        refine lv_aload hx hb dX8_filter_140 (lv_at hl 2 rfl) ?_
                        refine q_get C hP faj rfl inX7 3 (by decide) g1143 rfl dX8_filter_142 ?_
                        refine lv_icmp_ge (tgt := 195) hx hb dX8_filter_145 (by decide) (fun c145 => ?_) (fun c145 => ?_)
                        · replace c145 : nj ≤ ii := (nI_leI (a := nj) (b := ii) (by omega) (by omega)).mp c145
                          have eii : ii = nj := by omega
                          rw [eii, ← hLj] at lw
                          rcases hzf with ⟨rfl, hzf⟩ | ⟨rfl, hzf⟩
                          · have hno : ¬ xNoT q p3 (S j).2.1 = true := by rw [hLj, xNoT_row, ← eii]; exact fun ⟨q9, hq, e⟩ => hzf q9 hq e
                            refine lv_aload_n hx hb dX8_filter_195 rfl (lv_at hl 5 rfl) ?_
                            refine lv_aload_n hx hb dX8_filter_196 rfl (lv_at hl 5 rfl) ?_
                            refine q_get C hP hY rfl inX8 10 (by decide) g1177 rfl dX8_filter_197 ?_
                            refine lv_iconst (v := nI 1) hx hb dX8_filter_200 (by decide) ?_
                            refine lv_icmp_eq (tgt := 208) hx hb dX8_filter_201 (by decide) (fun c201 => ?_) (fun c201 => ?_)
                            · replace c201 : 0 = 1 := (nI_eq (a := 0) (b := 1) (by omega) (by omega)).mp c201
                              exfalso; omega
                            · replace c201 : ¬ 0 = 1 := fun zq => c201 ((nI_eq (a := 0) (b := 1) (by omega) (by omega)).mpr zq)
                              refine lv_iconst (v := nI 1) hx hb dX8_filter_204 (by decide) ?_
                              refine lv_goto (tgt := 209) hx hb dX8_filter_205 (by decide) ?_
                              refine lv_iconst (v := nI 3) hx hb dX8_filter_209 (by decide) ?_
                              refine q_callV (rest := []) C (c_X8_good1 l D cy N0 hv0 y ms mb (ra 28) od pt fi re rc rs so ot cn la ro gr 0 ca (nI m0) ct (nI 0) cs ce rn (nI 3) hY) kX8_good g1249 g1251 rfl gp41 g4 hP hS hY (by first | decide | omega) hl.1 rfl (by decide) (by first | decide | omega) dX8_filter_210 (fun q ce E h' H1 locs1 hE => hE.elim) (fun v hh10 H locs hq hP hS => ?_)
                              obtain ⟨rfl, rfl⟩ := hq
                              replace hP : qP D N0 (qs hv0 y (.inr (8, [.ref ms, .ref mb, .ref (ra 28), .int gr, .int 0, .int ca, .int (nI m0), .ref od, .ref pt, .int ct, .int (nI 0), .ref fi, .ref re, .int cs, .ref rc, .ref rs, .ref so, .ref ot, .ref cn, .ref la, .int ce, .ref ro, .int rn]))) H := hP
                              obtain ⟨hv9, ehv9⟩ : ∃ z : qH, z = qs hv0 y (.inr (8, [.ref ms, .ref mb, .ref (ra 28), .int gr, .int 0, .int ca, .int (nI m0), .ref od, .ref pt, .int ct, .int (nI 0), .ref fi, .ref re, .int cs, .ref rc, .ref rs, .ref so, .ref ot, .ref cn, .ref la, .int ce, .ref ro, .int rn])) := ⟨_, rfl⟩
                              rw [← ehv9] at hP
                              have khv9 : ∀ b o, b ≠ y → hv0 b = some o → hv9 b = some o := by rw [ehv9]; exact fun b o nb hb => (qs_ne nb).trans hb
                              replace hms := khv9 _ _ (fun q => by subst q; have := hms.symm.trans hY; first | cases this | simp at this) hms
                              replace hmb := khv9 _ _ (fun q => by subst q; have := hmb.symm.trans hY; first | cases this | simp at this) hmb
                              replace faw := khv9 _ _ (fun q => by have z9 := faw; rw [q] at z9; have := z9.symm.trans hY; first | cases this | simp at this) faw
                              replace fkw := khv9 _ _ (fun q => by have z9 := fkw; rw [q] at z9; have := z9.symm.trans hY; first | cases this | simp at this) fkw
                              replace fvw := khv9 _ _ (fun q => by have z9 := fvw; rw [q] at z9; have := z9.symm.trans hY; first | cases this | simp at this) fvw
                              replace faj := khv9 _ _ (fun q => by have z9 := faj; rw [q] at z9; have := z9.symm.trans hY; first | cases this | simp at this) faj
                              replace fkj := khv9 _ _ (fun q => by have z9 := fkj; rw [q] at z9; have := z9.symm.trans hY; first | cases this | simp at this) fkj
                              replace fvj := khv9 _ _ (fun q => by have z9 := fvj; rw [q] at z9; have := z9.symm.trans hY; first | cases this | simp at this) fvj
                              replace hY : hv9 y = some (.inr (8, [.ref ms, .ref mb, .ref (ra 28), .int gr, .int 0, .int ca, .int (nI m0), .ref od, .ref pt, .int ct, .int (nI 0), .ref fi, .ref re, .int cs, .ref rc, .ref rs, .ref so, .ref ot, .ref cn, .ref la, .int ce, .ref ro, .int rn])) := by rw [ehv9]; exact qs_self
                              clear ehv9
                              replace fr := fun b o hb n1 n2 => khv9 b o n1 (fr b o hb n1 n2)
                              refine lv_if_eq (tgt := 268) hx hb dX8_filter_213 (by decide) (fun c213 => ?_) (fun c213 => ?_)
                              · replace c213 : 1 = 0 := (nI_eq (a := 1) (b := 0) (by omega) (by omega)).mp c213
                                exfalso; omega
                              · replace c213 : ¬ 1 = 0 := fun zq => c213 ((nI_eq (a := 1) (b := 0) (by omega) (by omega)).mpr zq)
                                refine lv_aload_n hx hb dX8_filter_216 rfl (lv_at hl 5 rfl) ?_
                                refine lv_aload hx hb dX8_filter_217 (lv_at hl 2 rfl) ?_
                                refine q_get C hP faj rfl inX7 2 (by decide) g1142 rfl dX8_filter_219 ?_
                                refine lv_bipush (v := 6) hx hb dX8_filter_222 (by decide) ?_
                                refine lv_icmp_ne (tgt := 254) hx hb dX8_filter_224 (by decide) (fun _ => ?_) (fun c => absurd c c88)
                                refine lv_aload_n hx hb dX8_filter_254 rfl (lv_at hl 5 rfl) ?_
                                refine lv_iconst (v := nI 0) hx hb dX8_filter_255 (by decide) ?_
                                refine lv_iload hx hb dX8_filter_256 (lv_at hl 1 rfl) ?_
                                refine q_callV (rest := [.ref y]) C (c_X8_fits l D cy N0 hv9 y m0 0 nj _ hY rfl (by omega) (by omega)) kX8_fits g1413 g1415 rfl gp61 g4 hP hS hY (by first | decide | omega) hl.1 rfl (by simp [q_catrf, q_cati, q_catl, q_cata, q_catn]) (by first | decide | omega) dX8_filter_258 (fun q ce E h' H1 locs1 hE => hE.elim) (fun v hh11 H locs hq hP hS => ?_)
                                obtain ⟨rfl, rfl⟩ := hq
                                by_cases cf : 0 ≤ 1000 ∧ m0 + nj ≤ 20000
                                · rw [if_pos cf]
                                  refine lv_iconst (v := nI 4) hx hb dX8_filter_261 (by decide) ?_
                                  refine q_callV (rest := []) C (c_X8_good1 l D cy N0 hv9 y ms mb (ra 28) od pt fi re rc rs so ot cn la ro gr 0 ca (nI m0) ct (nI 0) cs ce rn (nI 4) hY) kX8_good g1249 g1251 rfl gp41 g4 hP hS hY (by first | decide | omega) hl.1 rfl (by decide) (by first | decide | omega) dX8_filter_262 (fun q ce E h' H1 locs1 hE => hE.elim) (fun v hh12 H locs hq hP hS => ?_)
                                  obtain ⟨rfl, rfl⟩ := hq
                                  replace hP : qP D N0 (qs hv9 y (.inr (8, [.ref ms, .ref mb, .ref (ra 28), .int gr, .int 0, .int ca, .int (nI m0), .ref od, .ref pt, .int ct, .int (nI 0), .ref fi, .ref re, .int cs, .ref rc, .ref rs, .ref so, .ref ot, .ref cn, .ref la, .int ce, .ref ro, .int rn]))) H := hP
                                  obtain ⟨hv10, ehv10⟩ : ∃ z : qH, z = qs hv9 y (.inr (8, [.ref ms, .ref mb, .ref (ra 28), .int gr, .int 0, .int ca, .int (nI m0), .ref od, .ref pt, .int ct, .int (nI 0), .ref fi, .ref re, .int cs, .ref rc, .ref rs, .ref so, .ref ot, .ref cn, .ref la, .int ce, .ref ro, .int rn])) := ⟨_, rfl⟩
                                  rw [← ehv10] at hP
                                  have khv10 : ∀ b o, b ≠ y → hv9 b = some o → hv10 b = some o := by rw [ehv10]; exact fun b o nb hb => (qs_ne nb).trans hb
                                  replace hms := khv10 _ _ (fun q => by subst q; have := hms.symm.trans hY; first | cases this | simp at this) hms
                                  replace hmb := khv10 _ _ (fun q => by subst q; have := hmb.symm.trans hY; first | cases this | simp at this) hmb
                                  replace faw := khv10 _ _ (fun q => by have z9 := faw; rw [q] at z9; have := z9.symm.trans hY; first | cases this | simp at this) faw
                                  replace fkw := khv10 _ _ (fun q => by have z9 := fkw; rw [q] at z9; have := z9.symm.trans hY; first | cases this | simp at this) fkw
                                  replace fvw := khv10 _ _ (fun q => by have z9 := fvw; rw [q] at z9; have := z9.symm.trans hY; first | cases this | simp at this) fvw
                                  replace faj := khv10 _ _ (fun q => by have z9 := faj; rw [q] at z9; have := z9.symm.trans hY; first | cases this | simp at this) faj
                                  replace fkj := khv10 _ _ (fun q => by have z9 := fkj; rw [q] at z9; have := z9.symm.trans hY; first | cases this | simp at this) fkj
                                  replace fvj := khv10 _ _ (fun q => by have z9 := fvj; rw [q] at z9; have := z9.symm.trans hY; first | cases this | simp at this) fvj
                                  replace hY : hv10 y = some (.inr (8, [.ref ms, .ref mb, .ref (ra 28), .int gr, .int 0, .int ca, .int (nI m0), .ref od, .ref pt, .int ct, .int (nI 0), .ref fi, .ref re, .int cs, .ref rc, .ref rs, .ref so, .ref ot, .ref cn, .ref la, .int ce, .ref ro, .int rn])) := by rw [ehv10]; exact qs_self
                                  clear ehv10
                                  replace fr := fun b o hb n1 n2 => khv10 b o n1 (fr b o hb n1 n2)
                                  refine lv_if_ne (tgt := 269) hx hb dX8_filter_265 (by decide) (fun c265 => ?_) (fun c265 => ?_)
                                  · replace c265 : ¬ 1 = 0 := fun zq => c265 ((nI_eq (a := 1) (b := 0) (by omega) (by omega)).mpr zq)
                                    refine lv_aload_n hx hb dX8_filter_269 rfl (lv_at hl 5 rfl) ?_
                                    refine lv_iload_n hx hb dX8_filter_270 rfl (lv_at hl 6 rfl) ?_
                                    refine lv_aload hx hb dX8_filter_271 (lv_at hl 2 rfl) ?_
                                    refine q_get C hP faj rfl inX7 2 (by decide) g1142 rfl dX8_filter_273 ?_
                                    refine lv_bipush (v := 6) hx hb dX8_filter_276 (by decide) ?_
                                    refine lv_icmp_ne (tgt := 285) hx hb dX8_filter_278 (by decide) (fun _ => ?_) (fun c => absurd c c88)
                                    refine lv_iload hx hb dX8_filter_285 (lv_at hl 1 rfl) ?_
                                    obtain ⟨ni, rwi, Fi, Gi, hRi, hni, hLi, hKi⟩ := hrs i (by omega)
                                    have api := hRi.apart hRw (hmd.two (i := i) (j := 28) (by omega) (by omega) (by omega))
                                    replace hRi := hRi.keep2 (fun b o hb ho => fr b o ho (hRi.ney hY0 hb) (hb.elim (fun q => q ▸ api.1) (fun hb => hb.elim (fun q => q ▸ api.2.1) (fun q => q ▸ api.2.2))))
                                    have fai := hRi.2.2.2.1
                                    have fki := hRi.2.2.2.2.1
                                    have fvi := hRi.2.2.2.2.2
                                    unfold qRb at fai
                                    unfold qJr at fki fvi
                                    refine q_callV (rest := []) C (c_X8_done l D cy N0 hv10 y ms mb od pt fi re rc rs so ot cn la ro gr 0 ca (nI m0) ct (nI 0) cs ce rn ra rk rv i (nI nj) (S j).1 (nI (S j).2.2.1) (nI (S j).2.2.2) rwj nW fW gW (S i).1 (nI (S i).2.2.1) (nI (S i).2.2.2) rwi ni Fi Gi hY hms hmd ⟨hRw.1, hRw.2.1, hRw.2.2.1, faw, fkw, fvw⟩ ⟨hRi.1, hRi.2.1, hRi.2.2.1, fai, fki, fvi⟩ (by omega) (by omega)) kX8_done g1293 g1295 rfl gp45 g4 hP hS hY (by first | decide | omega) hl.1 rfl (by decide) (by first | decide | omega) dX8_filter_287 (fun q ce E h' H1 locs1 hE => hE.elim) (fun v hh13 H locs hq hP hS => ?_)
                                    obtain ⟨rfl, hY9, hw9, hi9, fr9⟩ := hq
                                    replace fr := fun b o hb n1 n2 n3 => fr9 b o (fr b o hb n1 n2) n1 n2 n3
                                    rw [nI_add] at hY9
                                    refine lv_pop hx hb dX8_filter_290 rfl ?_
                                    obtain ⟨m9, f9⟩ := hM.fin hY0 (i := i) (by omega) (s := ((S j).1, (xFlL q p3 (S j).2.1), (S j).2.2.1, (S j).2.2.2)) ⟨nW, _, _, _, hi9, by omega, by rw [qLs_cp]; exact lw.symm, Or.inl rfl⟩ hw9 fr
                                    have eX : X = (0, qU S i ((S j).1, (xFlL q p3 (S j).2.1), (S j).2.2), oMv (oFa (ms, mb, ra 28, od, pt, ro, gr, cd, ca, nI m0, ct, fau, rn) 0) (nI (m0 + nj)), a, k) := by rw [← hX]; unfold xs_filter; rw [if_neg (by rw [ebi, ebj, ecq]; exact fun z => z.elim (fun z => by cases z) (fun z => z.elim (fun z => by cases z) (fun z => z.elim c16 (fun z => by omega)))), ecj, if_neg (by rw [hoj]; decide), eci, ecq]; unfold xr_filter; rw [if_neg c88, if_neg hno, show oMq (ms, mb, ra 28, od, pt, ro, gr, cd, ca, nI m0, ct, fau, rn) = nI m0 from rfl, ecm, hlen, if_neg (by omega), nI_add]
                                    obtain ⟨q9, r9⟩ := hQ.rowM (o' := oCd (oMv (oFa (ms, mb, ra 28, od, pt, ro, gr, cd, ca, nI m0, ct, fau, rn) 0) (nI (m0 + nj))) 0) hY0 hY9 m9 f9 ⟨rfl, rfl, rfl, rfl, rfl, rfl⟩
                                    exact q_vret C hP hS ⟨rfl, A, by rw [eX]; exact q9, r9⟩ (by omega) dX8_filter_291
                                  · replace c265 : 1 = 0 := (nI_eq (a := 1) (b := 0) (by omega) (by omega)).mp c265
                                    exfalso; omega
                                · rw [if_neg cf]
                                  refine lv_iconst (v := nI 4) hx hb dX8_filter_261 (by decide) ?_
                                  refine q_callV (rest := []) C (c_X8_good0 l D cy N0 hv9 y ms mb (ra 28) od pt fi re rc rs so ot cn la ro gr 0 ca (nI m0) ct (nI 0) cs ce rn (nI 4) hY) kX8_good g1249 g1251 rfl gp41 g4 hP hS hY (by first | decide | omega) hl.1 rfl (by decide) (by first | decide | omega) dX8_filter_262 (fun q ce E h' H1 locs1 hE => hE.elim) (fun v hh14 H locs hq hP hS => ?_)
                                  obtain ⟨rfl, rfl⟩ := hq
                                  replace hP : qP D N0 (qs hv9 y (.inr (8, [.ref ms, .ref mb, .ref (ra 28), .int gr, .int (nI 4), .int ca, .int (nI m0), .ref od, .ref pt, .int ct, .int (nI 0), .ref fi, .ref re, .int cs, .ref rc, .ref rs, .ref so, .ref ot, .ref cn, .ref la, .int ce, .ref ro, .int rn]))) H := hP
                                  obtain ⟨hv11, ehv11⟩ : ∃ z : qH, z = qs hv9 y (.inr (8, [.ref ms, .ref mb, .ref (ra 28), .int gr, .int (nI 4), .int ca, .int (nI m0), .ref od, .ref pt, .int ct, .int (nI 0), .ref fi, .ref re, .int cs, .ref rc, .ref rs, .ref so, .ref ot, .ref cn, .ref la, .int ce, .ref ro, .int rn])) := ⟨_, rfl⟩
                                  rw [← ehv11] at hP
                                  have khv11 : ∀ b o, b ≠ y → hv9 b = some o → hv11 b = some o := by rw [ehv11]; exact fun b o nb hb => (qs_ne nb).trans hb
                                  replace hms := khv11 _ _ (fun q => by subst q; have := hms.symm.trans hY; first | cases this | simp at this) hms
                                  replace hmb := khv11 _ _ (fun q => by subst q; have := hmb.symm.trans hY; first | cases this | simp at this) hmb
                                  replace faw := khv11 _ _ (fun q => by have z9 := faw; rw [q] at z9; have := z9.symm.trans hY; first | cases this | simp at this) faw
                                  replace fkw := khv11 _ _ (fun q => by have z9 := fkw; rw [q] at z9; have := z9.symm.trans hY; first | cases this | simp at this) fkw
                                  replace fvw := khv11 _ _ (fun q => by have z9 := fvw; rw [q] at z9; have := z9.symm.trans hY; first | cases this | simp at this) fvw
                                  replace faj := khv11 _ _ (fun q => by have z9 := faj; rw [q] at z9; have := z9.symm.trans hY; first | cases this | simp at this) faj
                                  replace fkj := khv11 _ _ (fun q => by have z9 := fkj; rw [q] at z9; have := z9.symm.trans hY; first | cases this | simp at this) fkj
                                  replace fvj := khv11 _ _ (fun q => by have z9 := fvj; rw [q] at z9; have := z9.symm.trans hY; first | cases this | simp at this) fvj
                                  replace hY : hv11 y = some (.inr (8, [.ref ms, .ref mb, .ref (ra 28), .int gr, .int (nI 4), .int ca, .int (nI m0), .ref od, .ref pt, .int ct, .int (nI 0), .ref fi, .ref re, .int cs, .ref rc, .ref rs, .ref so, .ref ot, .ref cn, .ref la, .int ce, .ref ro, .int rn])) := by rw [ehv11]; exact qs_self
                                  clear ehv11
                                  replace fr := fun b o hb n1 n2 => khv11 b o n1 (fr b o hb n1 n2)
                                  refine lv_if_ne (tgt := 269) hx hb dX8_filter_265 (by decide) (fun c265 => ?_) (fun c265 => ?_)
                                  · replace c265 : ¬ 0 = 0 := fun zq => c265 ((nI_eq (a := 0) (b := 0) (by omega) (by omega)).mpr zq)
                                    exfalso; omega
                                  · replace c265 : 0 = 0 := (nI_eq (a := 0) (b := 0) (by omega) (by omega)).mp c265
                                    have eX : X = (4, S, oFa (ms, mb, ra 28, od, pt, ro, gr, cd, ca, nI m0, ct, fau, rn) 0, a, k) := by rw [← hX]; unfold xs_filter; rw [if_neg (by rw [ebi, ebj, ecq]; exact fun z => z.elim (fun z => by cases z) (fun z => z.elim (fun z => by cases z) (fun z => z.elim c16 (fun z => by omega)))), ecj, if_neg (by rw [hoj]; decide), eci, ecq]; unfold xr_filter; rw [if_neg c88, if_neg hno, show oMq (ms, mb, ra 28, od, pt, ro, gr, cd, ca, nI m0, ct, fau, rn) = nI m0 from rfl, ecm, hlen, if_pos (by omega)]
                                    obtain ⟨m8, f8⟩ := hM.fin0 hY0 (h' := hv11) ⟨hRw.1, hRw.2.1, hRw.2.2.1, faw, fkw, fvw⟩ fr
                                    obtain ⟨q8, r8⟩ := hQ.rowM (o' := oCd (oFa (ms, mb, ra 28, od, pt, ro, gr, cd, ca, nI m0, ct, fau, rn) 0) 4) hY0 hY m8 f8 ⟨rfl, rfl, rfl, rfl, rfl, rfl⟩
                                    exact q_vret C hP hS ⟨rfl, A, by rw [eX]; exact q8, r8⟩ (by omega) dX8_filter_268
                          · have hno : xNoT q p3 (S j).2.1 = true := by rw [hLj, xNoT_row, ← eii]; exact hzf
                            refine lv_aload_n hx hb dX8_filter_195 rfl (lv_at hl 5 rfl) ?_
                            refine lv_aload_n hx hb dX8_filter_196 rfl (lv_at hl 5 rfl) ?_
                            refine q_get C hP hY rfl inX8 10 (by decide) g1177 rfl dX8_filter_197 ?_
                            refine lv_iconst (v := nI 1) hx hb dX8_filter_200 (by decide) ?_
                            refine lv_icmp_eq (tgt := 208) hx hb dX8_filter_201 (by decide) (fun c201 => ?_) (fun c201 => ?_)
                            · replace c201 : 1 = 1 := (nI_eq (a := 1) (b := 1) (by omega) (by omega)).mp c201
                              refine lv_iconst (v := nI 0) hx hb dX8_filter_208 (by decide) ?_
                              refine lv_iconst (v := nI 3) hx hb dX8_filter_209 (by decide) ?_
                              refine q_callV (rest := []) C (c_X8_good0 l D cy N0 hv0 y ms mb (ra 28) od pt fi re rc rs so ot cn la ro gr 0 ca (nI m0) ct (nI 1) cs ce rn (nI 3) hY) kX8_good g1249 g1251 rfl gp41 g4 hP hS hY (by first | decide | omega) hl.1 rfl (by decide) (by first | decide | omega) dX8_filter_210 (fun q ce E h' H1 locs1 hE => hE.elim) (fun v hh15 H locs hq hP hS => ?_)
                              obtain ⟨rfl, rfl⟩ := hq
                              replace hP : qP D N0 (qs hv0 y (.inr (8, [.ref ms, .ref mb, .ref (ra 28), .int gr, .int (nI 3), .int ca, .int (nI m0), .ref od, .ref pt, .int ct, .int (nI 1), .ref fi, .ref re, .int cs, .ref rc, .ref rs, .ref so, .ref ot, .ref cn, .ref la, .int ce, .ref ro, .int rn]))) H := hP
                              obtain ⟨hv12, ehv12⟩ : ∃ z : qH, z = qs hv0 y (.inr (8, [.ref ms, .ref mb, .ref (ra 28), .int gr, .int (nI 3), .int ca, .int (nI m0), .ref od, .ref pt, .int ct, .int (nI 1), .ref fi, .ref re, .int cs, .ref rc, .ref rs, .ref so, .ref ot, .ref cn, .ref la, .int ce, .ref ro, .int rn])) := ⟨_, rfl⟩
                              rw [← ehv12] at hP
                              have khv12 : ∀ b o, b ≠ y → hv0 b = some o → hv12 b = some o := by rw [ehv12]; exact fun b o nb hb => (qs_ne nb).trans hb
                              replace hms := khv12 _ _ (fun q => by subst q; have := hms.symm.trans hY; first | cases this | simp at this) hms
                              replace hmb := khv12 _ _ (fun q => by subst q; have := hmb.symm.trans hY; first | cases this | simp at this) hmb
                              replace faw := khv12 _ _ (fun q => by have z9 := faw; rw [q] at z9; have := z9.symm.trans hY; first | cases this | simp at this) faw
                              replace fkw := khv12 _ _ (fun q => by have z9 := fkw; rw [q] at z9; have := z9.symm.trans hY; first | cases this | simp at this) fkw
                              replace fvw := khv12 _ _ (fun q => by have z9 := fvw; rw [q] at z9; have := z9.symm.trans hY; first | cases this | simp at this) fvw
                              replace faj := khv12 _ _ (fun q => by have z9 := faj; rw [q] at z9; have := z9.symm.trans hY; first | cases this | simp at this) faj
                              replace fkj := khv12 _ _ (fun q => by have z9 := fkj; rw [q] at z9; have := z9.symm.trans hY; first | cases this | simp at this) fkj
                              replace fvj := khv12 _ _ (fun q => by have z9 := fvj; rw [q] at z9; have := z9.symm.trans hY; first | cases this | simp at this) fvj
                              replace hY : hv12 y = some (.inr (8, [.ref ms, .ref mb, .ref (ra 28), .int gr, .int (nI 3), .int ca, .int (nI m0), .ref od, .ref pt, .int ct, .int (nI 1), .ref fi, .ref re, .int cs, .ref rc, .ref rs, .ref so, .ref ot, .ref cn, .ref la, .int ce, .ref ro, .int rn])) := by rw [ehv12]; exact qs_self
                              clear ehv12
                              replace fr := fun b o hb n1 n2 => khv12 b o n1 (fr b o hb n1 n2)
                              refine lv_if_eq (tgt := 268) hx hb dX8_filter_213 (by decide) (fun c213 => ?_) (fun c213 => ?_)
                              · replace c213 : 0 = 0 := (nI_eq (a := 0) (b := 0) (by omega) (by omega)).mp c213
                                have eX : X = (3, S, oFa (ms, mb, ra 28, od, pt, ro, gr, cd, ca, nI m0, ct, fau, rn) 1, a, k) := by rw [← hX]; unfold xs_filter; rw [if_neg (by rw [ebi, ebj, ecq]; exact fun z => z.elim (fun z => by cases z) (fun z => z.elim (fun z => by cases z) (fun z => z.elim c16 (fun z => by omega)))), ecj, if_neg (by rw [hoj]; decide), eci, ecq]; unfold xr_filter; rw [if_neg c88, if_pos hno]
                                obtain ⟨m8, f8⟩ := hM.fin0 hY0 (h' := hv12) ⟨hRw.1, hRw.2.1, hRw.2.2.1, faw, fkw, fvw⟩ fr
                                obtain ⟨q8, r8⟩ := hQ.rowM (o' := oCd (oFa (ms, mb, ra 28, od, pt, ro, gr, cd, ca, nI m0, ct, fau, rn) 1) 3) hY0 hY m8 f8 ⟨rfl, rfl, rfl, rfl, rfl, rfl⟩
                                exact q_vret C hP hS ⟨rfl, A, by rw [eX]; exact q8, r8⟩ (by omega) dX8_filter_268
                              · replace c213 : ¬ 0 = 0 := fun zq => c213 ((nI_eq (a := 0) (b := 0) (by omega) (by omega)).mpr zq)
                                exfalso; omega
                            · replace c201 : ¬ 1 = 1 := fun zq => c201 ((nI_eq (a := 1) (b := 1) (by omega) (by omega)).mpr zq)
                              exfalso; omega
                        · replace c145 : ¬ nj ≤ ii := fun zq => c145 ((nI_leI (a := nj) (b := ii) (by omega) (by omega)).mpr zq)
                          refine lv_aload_n hx hb dX8_filter_148 rfl (lv_at hl 5 rfl) ?_
                          refine lv_iload_n hx hb dX8_filter_149 rfl (lv_at hl 4 rfl) ?_
                          refine lv_lload hx hb dX8_filter_150 (lv_at hl 3 rfl) ?_
                          refine lv_aload hx hb dX8_filter_152 (lv_at hl 2 rfl) ?_
                          refine q_get C hP faj rfl inX7 0 (by decide) g1138 rfl dX8_filter_154 ?_
                          refine lv_iload hx hb dX8_filter_157 (lv_at hl 0 rfl) ?_
                          refine q_laldN C hP fkj (by omega) (by omega) dX8_filter_159 ?_
                          refine q_callV (rest := []) C (c_X8_passes l D cy N0 hv0 y ms mb (ra 28) od pt fi re rc rs so ot cn la ro gr 0 ca (nI m0) ct zf cs ce rn q (Fj ii) p3 hY (by omega)) kX8_passes g1355 g1357 rfl gp56 g4 hP hS hY (by first | decide | omega) hl.1 rfl (by decide) (by first | decide | omega) dX8_filter_160 (fun q ce E h' H1 locs1 hE => hE.elim) (fun v hh16 H locs hq hP hS => ?_)
                          rcases hq with ⟨r8, er8, rfl, rfl⟩ | ⟨er8, rfl, rfl⟩
                          · cases r8 with
                            | true =>
                              rw [if_pos rfl]
                              refine lv_if_eq (tgt := 189) hx hb dX8_filter_163 (by decide) (fun c163 => ?_) (fun c163 => ?_)
                              · replace c163 : 1 = 0 := (nI_eq (a := 1) (b := 0) (by omega) (by omega)).mp c163
                                exfalso; omega
                              · replace c163 : ¬ 1 = 0 := fun zq => c163 ((nI_eq (a := 1) (b := 0) (by omega) (by omega)).mpr zq)
                                refine lv_aload_n hx hb dX8_filter_166 rfl (lv_at hl 5 rfl) ?_
                                refine q_get C hP hY rfl inX8 2 (by decide) g1169 rfl dX8_filter_167 ?_
                                refine lv_aload_n hx hb dX8_filter_170 rfl (lv_at hl 5 rfl) ?_
                                refine q_get C hP hY rfl inX8 2 (by decide) g1169 rfl dX8_filter_171 ?_
                                refine q_get C hP faw rfl inX7 3 (by decide) g1143 rfl dX8_filter_174 ?_
                                refine lv_aload hx hb dX8_filter_177 (lv_at hl 2 rfl) ?_
                                refine q_get C hP faj rfl inX7 0 (by decide) g1138 rfl dX8_filter_179 ?_
                                refine lv_iload hx hb dX8_filter_182 (lv_at hl 0 rfl) ?_
                                refine q_laldN C hP fkj (by omega) (by omega) dX8_filter_184 ?_
                                refine lv_lconst (v := 0) hx hb dX8_filter_185 (by decide) ?_
                                have lw0 := lw
                                refine q_callS (rest := []) C (c_X8_insert l D cy N0 hv0 (ra 28) (rk 28) (rv 28) ((S j).1) (nI (S j).2.2.1) (nI (S j).2.2.2) rwj nW fW gW nW (Fj ii) 0 ⟨hRw.1, hRw.2.1, hRw.2.2.1, faw, fkw, fvw⟩ (by omega) (by omega)) kX8_insert g1282 g1283 hP hS (by first | decide | omega) hl.1 rfl (by decide) (by first | decide | omega) dX8_filter_186 (fun q ce E h' H1 locs1 hE => hE.elim) (fun v hh17 H locs hq hP hS => ?_)
                                obtain ⟨rfl, rfl⟩ := hq
                                obtain ⟨hv13, ehv13⟩ : ∃ z : qH, z = qRh cy hv0 (ra 28) (rk 28) (rv 28) ((S j).1) (nI (nW + 1)) (nI (S j).2.2.1) (nI (S j).2.2.2) rwj (vp_updL (qSh fW nW nW) nW (Fj ii)) (vp_updL (qSh gW nW nW) nW 0) := ⟨_, rfl⟩
                                rw [← ehv13] at hP
                                have r9 : qRw cy hv13 (ra 28) (rk 28) (rv 28) ((S j).1) (nI (nW + 1)) (nI (S j).2.2.1) (nI (S j).2.2.2) rwj (vp_updL (qSh fW nW nW) nW (Fj ii)) (vp_updL (qSh gW nW nW) nW 0) := by rw [ehv13]; exact qRw.new (cy := cy) (h := hv0) (kd := (S j).1) (n := (nI nW)) (sm := (nI (S j).2.2.1)) (dp := (nI (S j).2.2.2)) (rw := rwj) (f := fW) (g := gW) ⟨hRw.1, hRw.2.1, hRw.2.2.1, faw, fkw, fvw⟩
                                have khv13 : ∀ b o, qOf (ra 28) (rk 28) (rv 28) b → hv0 b = some o → hv13 b = some o := by rw [ehv13]; exact fun b o q hb => (qRh_o q.1 q.2.1 q.2.2).trans hb
                                replace hY := khv13 _ _ ⟨fun q => by rw [q] at hY; have := faw.symm.trans hY; first | cases this | simp at this, fun q => by rw [q] at hY; have := fkw.symm.trans hY; first | cases this | simp at this, fun q => by rw [q] at hY; have := fvw.symm.trans hY; first | cases this | simp at this⟩ hY
                                replace hms := khv13 _ _ ⟨fun q => by rw [q] at hms; have := faw.symm.trans hms; first | cases this | simp at this, fun q => by rw [q] at hms; have := fkw.symm.trans hms; first | cases this | simp at this, fun q => by rw [q] at hms; have := fvw.symm.trans hms; first | cases this | simp at this⟩ hms
                                replace hmb := khv13 _ _ ⟨fun q => by rw [q] at hmb; have := faw.symm.trans hmb; first | cases this | simp at this, fun q => by rw [q] at hmb; have := fkw.symm.trans hmb; first | cases this | simp at this, fun q => by rw [q] at hmb; have := fvw.symm.trans hmb; first | cases this | simp at this⟩ hmb
                                replace faj := khv13 _ _ apj.1 faj
                                replace fkj := khv13 _ _ apj.2.1 fkj
                                replace fvj := khv13 _ _ apj.2.2 fvj
                                replace fr := fun b o hb n1 n2 => khv13 b o n2 (fr b o hb n1 n2)
                                clear faw fkw fvw
                                have faw := r9.2.2.2.1
                                have fkw := r9.2.2.2.2.1
                                have fvw := r9.2.2.2.2.2
                                unfold qRb at faw
                                unfold qJr at fkw fvw
                                clear r9 ehv13
                                replace lw : qLs ((S j).1) (vp_updL (qSh fW nW nW) nW (Fj ii)) (vp_updL (qSh gW nW nW) nW 0) (nW + 1) = ((xFlL q p3 (qLs (S j).1 Fj Gj ii))).take nW ++ ((Fj ii), xV ((S j).1) 0) :: ((xFlL q p3 (qLs (S j).1 Fj Gj ii))).drop nW := by rw [qLs_ins (by omega), lw]
                                refine lv_iinc (v := nI (ii + 1)) (lv' := [(8, .int (nI (ii + 1))), (7, .int (nI nj)), (6, .ref (ra j)), (4, .long p3), (3, .int (nI q)), (0, .ref y), (1, .int (nI i))]) hx hb dX8_filter_189 hl (k := 0) rfl (nI_1 ii) (by decide) rfl (fun ls hl => ?_)
                                refine lv_goto (tgt := 138) hx hb dX8_filter_192 (by decide) ?_
                                rw [List.take_of_length_le (by rw [← lw0, qLs_len]; omega), List.drop_of_length_le (by rw [← lw0, qLs_len]; omega)] at lw
                                exact ihl H locs ls hv13 _ _ (nW + 1) (ii + 1) zf (by omega) hY hms hmb faw fkw fvw faj fkj fvj fr (by rw [lw, qLs_succ]; unfold xFlL; rw [List.filter_append]; congr 1; rw [List.filter_cons, if_pos (decide_eq_true er8), exv, exv]; rfl) (hzf.elim (fun z => Or.inl ⟨z.1, fun q9 hq => if e : q9 = ii then by (subst e; rw [er8]; exact fun z => by cases z) else z.2 q9 (by omega)⟩) (fun z => Or.inr ⟨z.1, z.2.choose, by have := z.2.choose_spec.1; omega, z.2.choose_spec.2⟩)) ⟨by omega, by omega⟩ (lv_sub hl [0, 1, 2, 3, 4, 5, 6] rfl) hP hS
                            | false =>
                              rw [if_neg (by decide)]
                              refine lv_if_eq (tgt := 189) hx hb dX8_filter_163 (by decide) (fun c163 => ?_) (fun c163 => ?_)
                              · replace c163 : 0 = 0 := (nI_eq (a := 0) (b := 0) (by omega) (by omega)).mp c163
                                refine lv_iinc (v := nI (ii + 1)) (lv' := [(8, .int (nI (ii + 1))), (7, .int (nI nj)), (6, .ref (ra j)), (4, .long p3), (3, .int (nI q)), (0, .ref y), (1, .int (nI i))]) hx hb dX8_filter_189 hl (k := 0) rfl (nI_1 ii) (by decide) rfl (fun ls hl => ?_)
                                refine lv_goto (tgt := 138) hx hb dX8_filter_192 (by decide) ?_
                                exact ihl H locs ls hv0 _ _ nW (ii + 1) zf (by omega) hY hms hmb faw fkw fvw faj fkj fvj fr (by rw [lw, qLs_succ]; unfold xFlL; rw [List.filter_append, List.filter_cons, if_neg (by simp only [decide_eq_true_eq]; rw [er8]; exact fun z => by cases z)]; simp) (hzf.elim (fun z => Or.inl ⟨z.1, fun q9 hq => if e : q9 = ii then by (subst e; rw [er8]; exact fun z => by cases z) else z.2 q9 (by omega)⟩) (fun z => Or.inr ⟨z.1, z.2.choose, by have := z.2.choose_spec.1; omega, z.2.choose_spec.2⟩)) ⟨by omega, by omega⟩ (lv_sub hl [0, 1, 2, 3, 4, 5, 6] rfl) hP hS
                              · replace c163 : ¬ 0 = 0 := fun zq => c163 ((nI_eq (a := 0) (b := 0) (by omega) (by omega)).mpr zq)
                                exfalso; omega
                          · replace hP : qP D N0 (qs hv0 y (.inr (8, [.ref ms, .ref mb, .ref (ra 28), .int gr, .int 0, .int ca, .int (nI m0), .ref od, .ref pt, .int ct, .int 1, .ref fi, .ref re, .int cs, .ref rc, .ref rs, .ref so, .ref ot, .ref cn, .ref la, .int ce, .ref ro, .int rn]))) H := hP
                            obtain ⟨hv14, ehv14⟩ : ∃ z : qH, z = qs hv0 y (.inr (8, [.ref ms, .ref mb, .ref (ra 28), .int gr, .int 0, .int ca, .int (nI m0), .ref od, .ref pt, .int ct, .int 1, .ref fi, .ref re, .int cs, .ref rc, .ref rs, .ref so, .ref ot, .ref cn, .ref la, .int ce, .ref ro, .int rn])) := ⟨_, rfl⟩
                            rw [← ehv14] at hP
                            have khv14 : ∀ b o, b ≠ y → hv0 b = some o → hv14 b = some o := by rw [ehv14]; exact fun b o nb hb => (qs_ne nb).trans hb
                            replace hms := khv14 _ _ (fun q => by subst q; have := hms.symm.trans hY; first | cases this | simp at this) hms
                            replace hmb := khv14 _ _ (fun q => by subst q; have := hmb.symm.trans hY; first | cases this | simp at this) hmb
                            replace faw := khv14 _ _ (fun q => by have z9 := faw; rw [q] at z9; have := z9.symm.trans hY; first | cases this | simp at this) faw
                            replace fkw := khv14 _ _ (fun q => by have z9 := fkw; rw [q] at z9; have := z9.symm.trans hY; first | cases this | simp at this) fkw
                            replace fvw := khv14 _ _ (fun q => by have z9 := fvw; rw [q] at z9; have := z9.symm.trans hY; first | cases this | simp at this) fvw
                            replace faj := khv14 _ _ (fun q => by have z9 := faj; rw [q] at z9; have := z9.symm.trans hY; first | cases this | simp at this) faj
                            replace fkj := khv14 _ _ (fun q => by have z9 := fkj; rw [q] at z9; have := z9.symm.trans hY; first | cases this | simp at this) fkj
                            replace fvj := khv14 _ _ (fun q => by have z9 := fvj; rw [q] at z9; have := z9.symm.trans hY; first | cases this | simp at this) fvj
                            replace hY : hv14 y = some (.inr (8, [.ref ms, .ref mb, .ref (ra 28), .int gr, .int 0, .int ca, .int (nI m0), .ref od, .ref pt, .int ct, .int 1, .ref fi, .ref re, .int cs, .ref rc, .ref rs, .ref so, .ref ot, .ref cn, .ref la, .int ce, .ref ro, .int rn])) := by rw [ehv14]; exact qs_self
                            clear ehv14
                            replace fr := fun b o hb n1 n2 => khv14 b o n1 (fr b o hb n1 n2)
                            refine lv_if_eq (tgt := 189) hx hb dX8_filter_163 (by decide) (fun c163 => ?_) (fun c163 => ?_)
                            · replace c163 : 0 = 0 := (nI_eq (a := 0) (b := 0) (by omega) (by omega)).mp c163
                              refine lv_iinc (v := nI (ii + 1)) (lv' := [(8, .int (nI (ii + 1))), (7, .int (nI nj)), (6, .ref (ra j)), (4, .long p3), (3, .int (nI q)), (0, .ref y), (1, .int (nI i))]) hx hb dX8_filter_189 hl (k := 0) rfl (nI_1 ii) (by decide) rfl (fun ls hl => ?_)
                              refine lv_goto (tgt := 138) hx hb dX8_filter_192 (by decide) ?_
                              exact ihl H locs ls hv14 _ _ nW (ii + 1) (nI 1) (by omega) hY hms hmb faw fkw fvw faj fkj fvj fr (by rw [lw, qLs_succ]; unfold xFlL; rw [List.filter_append, List.filter_cons, if_neg (by simp only [decide_eq_true_eq]; rw [er8]; exact fun z => by cases z)]; simp) (Or.inr ⟨rfl, ii, by omega, er8⟩) ⟨by omega, by omega⟩ (lv_sub hl [0, 1, 2, 3, 4, 5, 6] rfl) hP hS
                            · replace c163 : ¬ 0 = 0 := fun zq => c163 ((nI_eq (a := 0) (b := 0) (by omega) (by omega)).mpr zq)
                              exfalso; omega
                    · refine lv_aload_n hx hb dX8_filter_91 rfl (lv_at hl 2 rfl) ?_
                      refine q_get C hP hY rfl inX8 2 (by decide) g1169 rfl dX8_filter_92 ?_
                      refine lv_aload_n hx hb dX8_filter_95 rfl (lv_at hl 2 rfl) ?_
                      refine lv_aload hx hb dX8_filter_96 (lv_at hl 1 rfl) ?_
                      refine q_get C hP faj rfl inX7 4 (by decide) g1144 rfl dX8_filter_98 ?_
                      refine lv_iload_n hx hb dX8_filter_101 rfl (lv_at hl 5 rfl) ?_
                      refine lv_lload hx hb dX8_filter_102 (lv_at hl 6 rfl) ?_
                      have hs8 := hSt j (by omega) c88
                      have hL8 := (hV.L hB).1
                      have hLn := (hV.L hB).2
                      have hd8 := hDp j (by omega)
                      have hV8 : qWv Bd (sl + 1) Rn dp ((oFa (oCd (ms, mb, ra 28, od, pt, ro, gr, cd, ca, nI m0, ct, fau, rn) 0) 0), a, k) := hV.obj rfl
                      obtain ⟨T9, eT9⟩ : ∃ z, xFilt F q p3 1000 ((oFa (oCd (ms, mb, ra 28, od, pt, ro, gr, cd, ca, nI m0, ct, fau, rn) 0) 0), a, k) (S j).2.2.1 = z := ⟨_, rfl⟩
                      obtain ⟨s2, o2, a2, k2⟩ := T9
                      have hX2 : X = if oFq o2 = 1 then (3, S, o2, a2, k2) else if ¬ oFq o2 = 0 ∨ 100 < (S j).2.2.2 + 1 then (4, S, o2, a2, k2) else (0, qU S i ((S j).1, (S j).2.1, s2, (S j).2.2.2 + 1), o2, a2, k2) := by rw [← hX]; unfold xs_filter; rw [if_neg (by rw [ebi, ebj, ecq]; exact fun z => z.elim (fun z => by cases z) (fun z => z.elim (fun z => by cases z) (fun z => z.elim c16 (fun z => by omega)))), ecj, if_neg (by rw [hoj]; decide), eci, ecq]; unfold xr_filter; rw [if_pos c88]; dsimp only; rw [eT9]
                      have st9 := xFilt_stp (sl := sl) (dc := d) (c := p3) hG (show q ≤ 4 by omega) 1000 (S j).2.2.1 dp ((oFa (oCd (ms, mb, ra 28, od, pt, ro, gr, cd, ca, nI m0, ct, fau, rn) 0) 0), a, k) hV8 rfl ⟨hs8.1, by omega, by omega⟩
                      rw [eT9] at st9
                      have hpm := qStp.P hV8 st9
                      obtain ⟨-, -, -, -, -, -, ⟨x6, y6, z6, e6⟩, -⟩ := st9
                      dsimp only at hpm e6
                      have eP1 : qP1 X.2.2.2.1 = qP1 a2 := by rw [hX2]; (repeat' split) <;> rfl
                      have eP2 : qP2 X.2.2.2.1 = qP2 a2 := by rw [hX2]; (repeat' split) <;> rfl
                      obtain ⟨m8, f8⟩ := hM.fin0 hY0 (h' := hv7) ⟨hRw.1, hRw.2.1, hRw.2.2.1, faw, fkw, fvw⟩ fr
                      obtain ⟨q8, r8⟩ := hQ.rowM (o' := (oFa (oCd (ms, mb, ra 28, od, pt, ro, gr, cd, ca, nI m0, ct, fau, rn) 0) 0)) hY0 hY m8 f8 ⟨rfl, rfl, rfl, rfl, rfl, rfl⟩
                      have hcall := w_filtered l D cy N0 hv7 y A (oFa (oCd (ms, mb, ra 28, od, pt, ro, gr, cd, ca, nI m0, ct, fau, rn) 0) 0) a k R ad Rn Bd sl d dp F (S j).2.2.1 q p3 (s2, o2, a2, k2) q8.1 q8.2.1 q8.2.2.2.2.1 hV8 rfl hB hF hG (by omega) ⟨hs8.1, by omega⟩ eT9
                      clear eT9
                      dsimp only at hcall
                      subst e6
                      refine q_callV (rest := [.ref (ra 28)]) C (hcall) kX8_filtered g1351 g1353 rfl gp55 g4 hP hS hY (by first | decide | omega) hl.1 rfl (by simp [q_catrf, q_cati, q_catl, q_cata, q_catn]) (by first | decide | omega) dX8_filter_104 (fun q ce E h' H1 locs1 hE => hE.elim) (fun v hh18 H locs hq hP hS => ?_)
                      obtain ⟨rfl, A1, hS1, hF1, nA1⟩ := hq
                      have ap9 := q8.2.2.2.2.2
                      replace hms := hF1.1 _ _ hms (qne_arr (cy := cy) hms hY) ap9.two.1
                      replace hmb := hF1.1 _ _ hmb (qne_arr (cy := cy) hmb hY) ap9.two.2
                      replace faw := hF1.1 _ _ faw (fun z => by rw [z] at faw; have := faw.symm.trans hY; cases this) (ap9.row (i := 28) (by omega)).1
                      replace fkw := hF1.1 _ _ fkw (qne_arr (cy := cy) fkw hY) (ap9.row (i := 28) (by omega)).2.1
                      replace fvw := hF1.1 _ _ fvw (qne_arr (cy := cy) fvw hY) (ap9.row (i := 28) (by omega)).2.2
                      replace faj := hF1.1 _ _ faj (fun z => by rw [z] at faj; have := faj.symm.trans hY; cases this) (ap9.row (i := j) (by omega)).1
                      replace fkj := hF1.1 _ _ fkj (qne_arr (cy := cy) fkj hY) (ap9.row (i := j) (by omega)).2.1
                      replace fvj := hF1.1 _ _ fvj (qne_arr (cy := cy) fvj hY) (ap9.row (i := j) (by omega)).2.2
                      obtain ⟨q7a, r7a⟩ := q8.str hS1 hF1 nA1 ⟨rfl, rfl, rfl, rfl, rfl, rfl⟩
                      have rta := r8.tr q8 rfl r7a
                      clear hY
                      obtain ⟨fja, rja, rcja, rsja, soja, otja, cnja, laja, hY⟩ := q7a.1.yo2
                      unfold qYo at hY
                      dsimp only [oFa, oMv, oCa, oCd] at hY
                      replace hX2 : X = if z6 = 1 then (3, S, oFa (oMv (oCa (oFa (oCd (ms, mb, ra 28, od, pt, ro, gr, cd, ca, nI m0, ct, fau, rn) 0) 0) x6) y6) z6, a2, k2) else if ¬ z6 = 0 ∨ 100 < (S j).2.2.2 + 1 then (4, S, oFa (oMv (oCa (oFa (oCd (ms, mb, ra 28, od, pt, ro, gr, cd, ca, nI m0, ct, fau, rn) 0) 0) x6) y6) z6, a2, k2) else (0, qU S i ((S j).1, (S j).2.1, s2, (S j).2.2.2 + 1), oFa (oMv (oCa (oFa (oCd (ms, mb, ra 28, od, pt, ro, gr, cd, ca, nI m0, ct, fau, rn) 0) 0) x6) y6) z6, a2, k2) := hX2
                      have hY0 := hY
                      have hM := q7a.2.2.1
                      have hrs := hM.2.2.2.2.1
                      replace hRw : qRw cy hh18 (ra 28) (rk 28) (rv 28) ((S j).1) (nI nj) (nI (S j).2.2.1) (nI (S j).2.2.2) rwj (qCp Fj fw nj) (qCp Gj gw nj) := ⟨hRw.1, hRw.2.1, hRw.2.2.1, faw, fkw, fvw⟩
                      replace fr : ∀ b o, hh18 b = some o → b ≠ y → qOf (ra 28) (rk 28) (rv 28) b → hh18 b = some o := fun b o hb _ _ => hb
                      refine q_put C hP hS faw rfl inX7 tyX7 tyX7_ok nmX7 4 (by decide) g1144 rfl rfl rfl (Nat.le_of_ble_eq_true rfl) dX8_filter_107 (fun H locs hP hS => ?_)
                      replace hP : qP D N0 (qs hh18 (ra 28) (.inr (7, [.ref (rk 28), .ref (rv 28), .int (S j).1, .int (nI nj), .int (nI s2), .int (nI (S j).2.2.2), .int rwj]))) H := hP
                      obtain ⟨hv15, ehv15⟩ : ∃ z : qH, z = qs hh18 (ra 28) (.inr (7, [.ref (rk 28), .ref (rv 28), .int (S j).1, .int (nI nj), .int (nI s2), .int (nI (S j).2.2.2), .int rwj])) := ⟨_, rfl⟩
                      rw [← ehv15] at hP
                      have khv15 : ∀ b o, b ≠ (ra 28) → hh18 b = some o → hv15 b = some o := by rw [ehv15]; exact fun b o nb hb => (qs_ne nb).trans hb
                      replace hY := khv15 _ _ (fun q => by have z9 := hY; rw [q] at z9; have := z9.symm.trans faw; first | cases this | simp at this) hY
                      replace hms := khv15 _ _ (fun q => by have z9 := hms; rw [q] at z9; have := z9.symm.trans faw; first | cases this | simp at this) hms
                      replace hmb := khv15 _ _ (fun q => by have z9 := hmb; rw [q] at z9; have := z9.symm.trans faw; first | cases this | simp at this) hmb
                      replace fkw := khv15 _ _ (fun q => by have z9 := fkw; rw [q] at z9; have := z9.symm.trans faw; first | cases this | simp at this) fkw
                      replace fvw := khv15 _ _ (fun q => by have z9 := fvw; rw [q] at z9; have := z9.symm.trans faw; first | cases this | simp at this) fvw
                      replace faj := khv15 _ _ apj.1.1 faj
                      replace fkj := khv15 _ _ apj.2.1.1 fkj
                      replace fvj := khv15 _ _ apj.2.2.1 fvj
                      replace faw : hv15 (ra 28) = some (.inr (7, [.ref (rk 28), .ref (rv 28), .int (S j).1, .int (nI nj), .int (nI s2), .int (nI (S j).2.2.2), .int rwj])) := by rw [ehv15]; exact qs_self
                      clear ehv15
                      replace fr := fun b o hb n1 n2 => khv15 b o n2.1 (fr b o hb n1 n2)
                      refine lv_aload_n hx hb dX8_filter_110 rfl (lv_at hl 2 rfl) ?_
                      refine q_get C hP hY rfl inX8 2 (by decide) g1169 rfl dX8_filter_111 ?_
                      refine lv_aload hx hb dX8_filter_114 (lv_at hl 1 rfl) ?_
                      refine q_get C hP faj rfl inX7 5 (by decide) g1145 rfl dX8_filter_116 ?_
                      refine lv_iconst (v := nI 1) hx hb dX8_filter_119 (by decide) ?_
                      refine q_iaddN hx hb dX8_filter_120 ?_
                      refine q_put C hP hS faw rfl inX7 tyX7 tyX7_ok nmX7 5 (by decide) g1145 rfl rfl rfl (Nat.le_of_ble_eq_true rfl) dX8_filter_121 (fun H locs hP hS => ?_)
                      replace hP : qP D N0 (qs hv15 (ra 28) (.inr (7, [.ref (rk 28), .ref (rv 28), .int (S j).1, .int (nI nj), .int (nI s2), .int (nI (((S j).2.2.2) + 1)), .int rwj]))) H := hP
                      obtain ⟨hv16, ehv16⟩ : ∃ z : qH, z = qs hv15 (ra 28) (.inr (7, [.ref (rk 28), .ref (rv 28), .int (S j).1, .int (nI nj), .int (nI s2), .int (nI (((S j).2.2.2) + 1)), .int rwj])) := ⟨_, rfl⟩
                      rw [← ehv16] at hP
                      have khv16 : ∀ b o, b ≠ (ra 28) → hv15 b = some o → hv16 b = some o := by rw [ehv16]; exact fun b o nb hb => (qs_ne nb).trans hb
                      replace hY := khv16 _ _ (fun q => by have z9 := hY; rw [q] at z9; have := z9.symm.trans faw; first | cases this | simp at this) hY
                      replace hms := khv16 _ _ (fun q => by have z9 := hms; rw [q] at z9; have := z9.symm.trans faw; first | cases this | simp at this) hms
                      replace hmb := khv16 _ _ (fun q => by have z9 := hmb; rw [q] at z9; have := z9.symm.trans faw; first | cases this | simp at this) hmb
                      replace fkw := khv16 _ _ (fun q => by have z9 := fkw; rw [q] at z9; have := z9.symm.trans faw; first | cases this | simp at this) fkw
                      replace fvw := khv16 _ _ (fun q => by have z9 := fvw; rw [q] at z9; have := z9.symm.trans faw; first | cases this | simp at this) fvw
                      replace faj := khv16 _ _ apj.1.1 faj
                      replace fkj := khv16 _ _ apj.2.1.1 fkj
                      replace fvj := khv16 _ _ apj.2.2.1 fvj
                      replace faw : hv16 (ra 28) = some (.inr (7, [.ref (rk 28), .ref (rv 28), .int (S j).1, .int (nI nj), .int (nI s2), .int (nI (((S j).2.2.2) + 1)), .int rwj])) := by rw [ehv16]; exact qs_self
                      clear ehv16
                      replace fr := fun b o hb n1 n2 => khv16 b o n2.1 (fr b o hb n1 n2)
                      refine lv_goto (tgt := 195) hx hb dX8_filter_124 (by decide) ?_
                      refine lv_aload_n hx hb dX8_filter_195 rfl (lv_at hl 2 rfl) ?_
                      refine lv_aload_n hx hb dX8_filter_196 rfl (lv_at hl 2 rfl) ?_
                      refine q_get C hP hY rfl inX8 10 (by decide) g1177 rfl dX8_filter_197 ?_
                      refine lv_iconst (v := 1) hx hb dX8_filter_200 (by decide) ?_
                      refine lv_icmp_eq (tgt := 208) hx hb dX8_filter_201 (by decide) (fun c201 => ?_) (fun c201 => ?_)
                      · refine lv_iconst (v := nI 0) hx hb dX8_filter_208 (by decide) ?_
                        refine lv_iconst (v := nI 3) hx hb dX8_filter_209 (by decide) ?_
                        refine q_callV (rest := []) C (c_X8_good0 l D cy N0 hv16 y ms mb (ra 28) od pt fja rja rcja rsja soja otja cnja laja ro gr 0 x6 y6 ct z6 (nI a2.1) (nI k2.1) rn (nI 3) hY) kX8_good g1249 g1251 rfl gp41 g4 hP hS hY (by first | decide | omega) hl.1 rfl (by decide) (by first | decide | omega) dX8_filter_210 (fun q ce E h' H1 locs1 hE => hE.elim) (fun v hh19 H locs hq hP hS => ?_)
                        obtain ⟨rfl, rfl⟩ := hq
                        replace hP : qP D N0 (qs hv16 y (.inr (8, [.ref ms, .ref mb, .ref (ra 28), .int gr, .int (nI 3), .int x6, .int y6, .ref od, .ref pt, .int ct, .int z6, .ref fja, .ref rja, .int (nI a2.1), .ref rcja, .ref rsja, .ref soja, .ref otja, .ref cnja, .ref laja, .int (nI k2.1), .ref ro, .int rn]))) H := hP
                        obtain ⟨hv17, ehv17⟩ : ∃ z : qH, z = qs hv16 y (.inr (8, [.ref ms, .ref mb, .ref (ra 28), .int gr, .int (nI 3), .int x6, .int y6, .ref od, .ref pt, .int ct, .int z6, .ref fja, .ref rja, .int (nI a2.1), .ref rcja, .ref rsja, .ref soja, .ref otja, .ref cnja, .ref laja, .int (nI k2.1), .ref ro, .int rn])) := ⟨_, rfl⟩
                        rw [← ehv17] at hP
                        have khv17 : ∀ b o, b ≠ y → hv16 b = some o → hv17 b = some o := by rw [ehv17]; exact fun b o nb hb => (qs_ne nb).trans hb
                        replace hms := khv17 _ _ (fun q => by subst q; have := hms.symm.trans hY; first | cases this | simp at this) hms
                        replace hmb := khv17 _ _ (fun q => by subst q; have := hmb.symm.trans hY; first | cases this | simp at this) hmb
                        replace faw := khv17 _ _ (fun q => by have z9 := faw; rw [q] at z9; have := z9.symm.trans hY; first | cases this | simp at this) faw
                        replace fkw := khv17 _ _ (fun q => by have z9 := fkw; rw [q] at z9; have := z9.symm.trans hY; first | cases this | simp at this) fkw
                        replace fvw := khv17 _ _ (fun q => by have z9 := fvw; rw [q] at z9; have := z9.symm.trans hY; first | cases this | simp at this) fvw
                        replace faj := khv17 _ _ (fun q => by have z9 := faj; rw [q] at z9; have := z9.symm.trans hY; first | cases this | simp at this) faj
                        replace fkj := khv17 _ _ (fun q => by have z9 := fkj; rw [q] at z9; have := z9.symm.trans hY; first | cases this | simp at this) fkj
                        replace fvj := khv17 _ _ (fun q => by have z9 := fvj; rw [q] at z9; have := z9.symm.trans hY; first | cases this | simp at this) fvj
                        replace hY : hv17 y = some (.inr (8, [.ref ms, .ref mb, .ref (ra 28), .int gr, .int (nI 3), .int x6, .int y6, .ref od, .ref pt, .int ct, .int z6, .ref fja, .ref rja, .int (nI a2.1), .ref rcja, .ref rsja, .ref soja, .ref otja, .ref cnja, .ref laja, .int (nI k2.1), .ref ro, .int rn])) := by rw [ehv17]; exact qs_self
                        clear ehv17
                        replace fr := fun b o hb n1 n2 => khv17 b o n1 (fr b o hb n1 n2)
                        refine lv_if_eq (tgt := 268) hx hb dX8_filter_213 (by decide) (fun c213 => ?_) (fun c213 => ?_)
                        · replace c213 : 0 = 0 := (nI_eq (a := 0) (b := 0) (by omega) (by omega)).mp c213
                          obtain ⟨m9, f9⟩ := hM.fin0 hY0 (h' := hv17) ⟨hRw.1, hRw.2.1, hRw.2.2.1, faw, fkw, fvw⟩ fr
                          rw [if_pos c201] at hX2
                          obtain ⟨q9, r9⟩ := q7a.rowM (o' := oCd (oFa (oMv (oCa (oFa (oCd (ms, mb, ra 28, od, pt, ro, gr, cd, ca, nI m0, ct, fau, rn) 0) 0) x6) y6) z6) 3) hY0 hY m9 f9 ⟨rfl, rfl, rfl, rfl, rfl, rfl⟩
                          exact q_vret C hP hS ⟨rfl, A1, by rw [hX2]; exact q9, rta.tr q7a rfl r9⟩ (by omega) dX8_filter_268
                        · replace c213 : ¬ 0 = 0 := fun zq => c213 ((nI_eq (a := 0) (b := 0) (by omega) (by omega)).mpr zq)
                          exfalso; omega
                      · refine lv_iconst (v := nI 1) hx hb dX8_filter_204 (by decide) ?_
                        refine lv_goto (tgt := 209) hx hb dX8_filter_205 (by decide) ?_
                        refine lv_iconst (v := nI 3) hx hb dX8_filter_209 (by decide) ?_
                        refine q_callV (rest := []) C (c_X8_good1 l D cy N0 hv16 y ms mb (ra 28) od pt fja rja rcja rsja soja otja cnja laja ro gr 0 x6 y6 ct z6 (nI a2.1) (nI k2.1) rn (nI 3) hY) kX8_good g1249 g1251 rfl gp41 g4 hP hS hY (by first | decide | omega) hl.1 rfl (by decide) (by first | decide | omega) dX8_filter_210 (fun q ce E h' H1 locs1 hE => hE.elim) (fun v hh20 H locs hq hP hS => ?_)
                        obtain ⟨rfl, rfl⟩ := hq
                        replace hP : qP D N0 (qs hv16 y (.inr (8, [.ref ms, .ref mb, .ref (ra 28), .int gr, .int 0, .int x6, .int y6, .ref od, .ref pt, .int ct, .int z6, .ref fja, .ref rja, .int (nI a2.1), .ref rcja, .ref rsja, .ref soja, .ref otja, .ref cnja, .ref laja, .int (nI k2.1), .ref ro, .int rn]))) H := hP
                        obtain ⟨hv18, ehv18⟩ : ∃ z : qH, z = qs hv16 y (.inr (8, [.ref ms, .ref mb, .ref (ra 28), .int gr, .int 0, .int x6, .int y6, .ref od, .ref pt, .int ct, .int z6, .ref fja, .ref rja, .int (nI a2.1), .ref rcja, .ref rsja, .ref soja, .ref otja, .ref cnja, .ref laja, .int (nI k2.1), .ref ro, .int rn])) := ⟨_, rfl⟩
                        rw [← ehv18] at hP
                        have khv18 : ∀ b o, b ≠ y → hv16 b = some o → hv18 b = some o := by rw [ehv18]; exact fun b o nb hb => (qs_ne nb).trans hb
                        replace hms := khv18 _ _ (fun q => by subst q; have := hms.symm.trans hY; first | cases this | simp at this) hms
                        replace hmb := khv18 _ _ (fun q => by subst q; have := hmb.symm.trans hY; first | cases this | simp at this) hmb
                        replace faw := khv18 _ _ (fun q => by have z9 := faw; rw [q] at z9; have := z9.symm.trans hY; first | cases this | simp at this) faw
                        replace fkw := khv18 _ _ (fun q => by have z9 := fkw; rw [q] at z9; have := z9.symm.trans hY; first | cases this | simp at this) fkw
                        replace fvw := khv18 _ _ (fun q => by have z9 := fvw; rw [q] at z9; have := z9.symm.trans hY; first | cases this | simp at this) fvw
                        replace faj := khv18 _ _ (fun q => by have z9 := faj; rw [q] at z9; have := z9.symm.trans hY; first | cases this | simp at this) faj
                        replace fkj := khv18 _ _ (fun q => by have z9 := fkj; rw [q] at z9; have := z9.symm.trans hY; first | cases this | simp at this) fkj
                        replace fvj := khv18 _ _ (fun q => by have z9 := fvj; rw [q] at z9; have := z9.symm.trans hY; first | cases this | simp at this) fvj
                        replace hY : hv18 y = some (.inr (8, [.ref ms, .ref mb, .ref (ra 28), .int gr, .int 0, .int x6, .int y6, .ref od, .ref pt, .int ct, .int z6, .ref fja, .ref rja, .int (nI a2.1), .ref rcja, .ref rsja, .ref soja, .ref otja, .ref cnja, .ref laja, .int (nI k2.1), .ref ro, .int rn])) := by rw [ehv18]; exact qs_self
                        clear ehv18
                        replace fr := fun b o hb n1 n2 => khv18 b o n1 (fr b o hb n1 n2)
                        refine lv_if_eq (tgt := 268) hx hb dX8_filter_213 (by decide) (fun c213 => ?_) (fun c213 => ?_)
                        · replace c213 : 1 = 0 := (nI_eq (a := 1) (b := 0) (by omega) (by omega)).mp c213
                          exfalso; omega
                        · replace c213 : ¬ 1 = 0 := fun zq => c213 ((nI_eq (a := 1) (b := 0) (by omega) (by omega)).mpr zq)
                          refine lv_aload_n hx hb dX8_filter_216 rfl (lv_at hl 2 rfl) ?_
                          refine lv_aload hx hb dX8_filter_217 (lv_at hl 1 rfl) ?_
                          refine q_get C hP faj rfl inX7 2 (by decide) g1142 rfl dX8_filter_219 ?_
                          refine lv_bipush (v := 6) hx hb dX8_filter_222 (by decide) ?_
                          refine lv_icmp_ne (tgt := 254) hx hb dX8_filter_224 (by decide) (fun c => absurd c88 c) (fun _ => ?_)
                          refine lv_aload_n hx hb dX8_filter_227 rfl (lv_at hl 2 rfl) ?_
                          refine q_get C hP hY rfl inX8 10 (by decide) g1177 rfl dX8_filter_228 ?_
                          refine lv_if_ne (tgt := 250) hx hb dX8_filter_231 (by decide) (fun c231 => ?_) (fun c231 => ?_)
                          · refine lv_iconst (v := nI 0) hx hb dX8_filter_250 (by decide) ?_
                            refine lv_goto (tgt := 261) hx hb dX8_filter_251 (by decide) ?_
                            refine lv_iconst (v := nI 4) hx hb dX8_filter_261 (by decide) ?_
                            refine q_callV (rest := []) C (c_X8_good0 l D cy N0 hv18 y ms mb (ra 28) od pt fja rja rcja rsja soja otja cnja laja ro gr 0 x6 y6 ct z6 (nI a2.1) (nI k2.1) rn (nI 4) hY) kX8_good g1249 g1251 rfl gp41 g4 hP hS hY (by first | decide | omega) hl.1 rfl (by decide) (by first | decide | omega) dX8_filter_262 (fun q ce E h' H1 locs1 hE => hE.elim) (fun v hh21 H locs hq hP hS => ?_)
                            obtain ⟨rfl, rfl⟩ := hq
                            replace hP : qP D N0 (qs hv18 y (.inr (8, [.ref ms, .ref mb, .ref (ra 28), .int gr, .int (nI 4), .int x6, .int y6, .ref od, .ref pt, .int ct, .int z6, .ref fja, .ref rja, .int (nI a2.1), .ref rcja, .ref rsja, .ref soja, .ref otja, .ref cnja, .ref laja, .int (nI k2.1), .ref ro, .int rn]))) H := hP
                            obtain ⟨hv19, ehv19⟩ : ∃ z : qH, z = qs hv18 y (.inr (8, [.ref ms, .ref mb, .ref (ra 28), .int gr, .int (nI 4), .int x6, .int y6, .ref od, .ref pt, .int ct, .int z6, .ref fja, .ref rja, .int (nI a2.1), .ref rcja, .ref rsja, .ref soja, .ref otja, .ref cnja, .ref laja, .int (nI k2.1), .ref ro, .int rn])) := ⟨_, rfl⟩
                            rw [← ehv19] at hP
                            have khv19 : ∀ b o, b ≠ y → hv18 b = some o → hv19 b = some o := by rw [ehv19]; exact fun b o nb hb => (qs_ne nb).trans hb
                            replace hms := khv19 _ _ (fun q => by subst q; have := hms.symm.trans hY; first | cases this | simp at this) hms
                            replace hmb := khv19 _ _ (fun q => by subst q; have := hmb.symm.trans hY; first | cases this | simp at this) hmb
                            replace faw := khv19 _ _ (fun q => by have z9 := faw; rw [q] at z9; have := z9.symm.trans hY; first | cases this | simp at this) faw
                            replace fkw := khv19 _ _ (fun q => by have z9 := fkw; rw [q] at z9; have := z9.symm.trans hY; first | cases this | simp at this) fkw
                            replace fvw := khv19 _ _ (fun q => by have z9 := fvw; rw [q] at z9; have := z9.symm.trans hY; first | cases this | simp at this) fvw
                            replace faj := khv19 _ _ (fun q => by have z9 := faj; rw [q] at z9; have := z9.symm.trans hY; first | cases this | simp at this) faj
                            replace fkj := khv19 _ _ (fun q => by have z9 := fkj; rw [q] at z9; have := z9.symm.trans hY; first | cases this | simp at this) fkj
                            replace fvj := khv19 _ _ (fun q => by have z9 := fvj; rw [q] at z9; have := z9.symm.trans hY; first | cases this | simp at this) fvj
                            replace hY : hv19 y = some (.inr (8, [.ref ms, .ref mb, .ref (ra 28), .int gr, .int (nI 4), .int x6, .int y6, .ref od, .ref pt, .int ct, .int z6, .ref fja, .ref rja, .int (nI a2.1), .ref rcja, .ref rsja, .ref soja, .ref otja, .ref cnja, .ref laja, .int (nI k2.1), .ref ro, .int rn])) := by rw [ehv19]; exact qs_self
                            clear ehv19
                            replace fr := fun b o hb n1 n2 => khv19 b o n1 (fr b o hb n1 n2)
                            refine lv_if_ne (tgt := 269) hx hb dX8_filter_265 (by decide) (fun c265 => ?_) (fun c265 => ?_)
                            · replace c265 : ¬ 0 = 0 := fun zq => c265 ((nI_eq (a := 0) (b := 0) (by omega) (by omega)).mpr zq)
                              exfalso; omega
                            · replace c265 : 0 = 0 := (nI_eq (a := 0) (b := 0) (by omega) (by omega)).mp c265
                              obtain ⟨m9, f9⟩ := hM.fin0 hY0 (h' := hv19) ⟨hRw.1, hRw.2.1, hRw.2.2.1, faw, fkw, fvw⟩ fr
                              rw [if_neg c201, if_pos (Or.inl c231)] at hX2
                              obtain ⟨q9, r9⟩ := q7a.rowM (o' := oCd (oFa (oMv (oCa (oFa (oCd (ms, mb, ra 28, od, pt, ro, gr, cd, ca, nI m0, ct, fau, rn) 0) 0) x6) y6) z6) 4) hY0 hY m9 f9 ⟨rfl, rfl, rfl, rfl, rfl, rfl⟩
                              exact q_vret C hP hS ⟨rfl, A1, by rw [hX2]; exact q9, rta.tr q7a rfl r9⟩ (by omega) dX8_filter_268
                          · refine lv_aload_n hx hb dX8_filter_234 rfl (lv_at hl 2 rfl) ?_
                            refine q_get C hP hY rfl inX8 2 (by decide) g1169 rfl dX8_filter_235 ?_
                            refine q_get C hP faw rfl inX7 5 (by decide) g1145 rfl dX8_filter_238 ?_
                            refine lv_bipush (v := nI 100) hx hb dX8_filter_241 (by decide) ?_
                            refine lv_icmp_gt (tgt := 250) hx hb dX8_filter_243 (by decide) (fun c243 => ?_) (fun c243 => ?_)
                            · replace c243 : 100 < (((S j).2.2.2) + 1) := (nI_ltI (a := 100) (b := (((S j).2.2.2) + 1)) (by omega) (by omega)).mp c243
                              refine lv_iconst (v := nI 0) hx hb dX8_filter_250 (by decide) ?_
                              refine lv_goto (tgt := 261) hx hb dX8_filter_251 (by decide) ?_
                              refine lv_iconst (v := nI 4) hx hb dX8_filter_261 (by decide) ?_
                              refine q_callV (rest := []) C (c_X8_good0 l D cy N0 hv18 y ms mb (ra 28) od pt fja rja rcja rsja soja otja cnja laja ro gr 0 x6 y6 ct z6 (nI a2.1) (nI k2.1) rn (nI 4) hY) kX8_good g1249 g1251 rfl gp41 g4 hP hS hY (by first | decide | omega) hl.1 rfl (by decide) (by first | decide | omega) dX8_filter_262 (fun q ce E h' H1 locs1 hE => hE.elim) (fun v hh22 H locs hq hP hS => ?_)
                              obtain ⟨rfl, rfl⟩ := hq
                              replace hP : qP D N0 (qs hv18 y (.inr (8, [.ref ms, .ref mb, .ref (ra 28), .int gr, .int (nI 4), .int x6, .int y6, .ref od, .ref pt, .int ct, .int z6, .ref fja, .ref rja, .int (nI a2.1), .ref rcja, .ref rsja, .ref soja, .ref otja, .ref cnja, .ref laja, .int (nI k2.1), .ref ro, .int rn]))) H := hP
                              obtain ⟨hv20, ehv20⟩ : ∃ z : qH, z = qs hv18 y (.inr (8, [.ref ms, .ref mb, .ref (ra 28), .int gr, .int (nI 4), .int x6, .int y6, .ref od, .ref pt, .int ct, .int z6, .ref fja, .ref rja, .int (nI a2.1), .ref rcja, .ref rsja, .ref soja, .ref otja, .ref cnja, .ref laja, .int (nI k2.1), .ref ro, .int rn])) := ⟨_, rfl⟩
                              rw [← ehv20] at hP
                              have khv20 : ∀ b o, b ≠ y → hv18 b = some o → hv20 b = some o := by rw [ehv20]; exact fun b o nb hb => (qs_ne nb).trans hb
                              replace hms := khv20 _ _ (fun q => by subst q; have := hms.symm.trans hY; first | cases this | simp at this) hms
                              replace hmb := khv20 _ _ (fun q => by subst q; have := hmb.symm.trans hY; first | cases this | simp at this) hmb
                              replace faw := khv20 _ _ (fun q => by have z9 := faw; rw [q] at z9; have := z9.symm.trans hY; first | cases this | simp at this) faw
                              replace fkw := khv20 _ _ (fun q => by have z9 := fkw; rw [q] at z9; have := z9.symm.trans hY; first | cases this | simp at this) fkw
                              replace fvw := khv20 _ _ (fun q => by have z9 := fvw; rw [q] at z9; have := z9.symm.trans hY; first | cases this | simp at this) fvw
                              replace faj := khv20 _ _ (fun q => by have z9 := faj; rw [q] at z9; have := z9.symm.trans hY; first | cases this | simp at this) faj
                              replace fkj := khv20 _ _ (fun q => by have z9 := fkj; rw [q] at z9; have := z9.symm.trans hY; first | cases this | simp at this) fkj
                              replace fvj := khv20 _ _ (fun q => by have z9 := fvj; rw [q] at z9; have := z9.symm.trans hY; first | cases this | simp at this) fvj
                              replace hY : hv20 y = some (.inr (8, [.ref ms, .ref mb, .ref (ra 28), .int gr, .int (nI 4), .int x6, .int y6, .ref od, .ref pt, .int ct, .int z6, .ref fja, .ref rja, .int (nI a2.1), .ref rcja, .ref rsja, .ref soja, .ref otja, .ref cnja, .ref laja, .int (nI k2.1), .ref ro, .int rn])) := by rw [ehv20]; exact qs_self
                              clear ehv20
                              replace fr := fun b o hb n1 n2 => khv20 b o n1 (fr b o hb n1 n2)
                              refine lv_if_ne (tgt := 269) hx hb dX8_filter_265 (by decide) (fun c265 => ?_) (fun c265 => ?_)
                              · replace c265 : ¬ 0 = 0 := fun zq => c265 ((nI_eq (a := 0) (b := 0) (by omega) (by omega)).mpr zq)
                                exfalso; omega
                              · replace c265 : 0 = 0 := (nI_eq (a := 0) (b := 0) (by omega) (by omega)).mp c265
                                obtain ⟨m9, f9⟩ := hM.fin0 hY0 (h' := hv20) ⟨hRw.1, hRw.2.1, hRw.2.2.1, faw, fkw, fvw⟩ fr
                                rw [if_neg c201, if_pos (Or.inr (by omega))] at hX2
                                obtain ⟨q9, r9⟩ := q7a.rowM (o' := oCd (oFa (oMv (oCa (oFa (oCd (ms, mb, ra 28, od, pt, ro, gr, cd, ca, nI m0, ct, fau, rn) 0) 0) x6) y6) z6) 4) hY0 hY m9 f9 ⟨rfl, rfl, rfl, rfl, rfl, rfl⟩
                                exact q_vret C hP hS ⟨rfl, A1, by rw [hX2]; exact q9, rta.tr q7a rfl r9⟩ (by omega) dX8_filter_268
                            · replace c243 : ¬ 100 < (((S j).2.2.2) + 1) := fun zq => c243 ((nI_ltI (a := 100) (b := (((S j).2.2.2) + 1)) (by omega) (by omega)).mpr zq)
                              refine lv_iconst (v := nI 1) hx hb dX8_filter_246 (by decide) ?_
                              refine lv_goto (tgt := 261) hx hb dX8_filter_247 (by decide) ?_
                              refine lv_iconst (v := nI 4) hx hb dX8_filter_261 (by decide) ?_
                              refine q_callV (rest := []) C (c_X8_good1 l D cy N0 hv18 y ms mb (ra 28) od pt fja rja rcja rsja soja otja cnja laja ro gr 0 x6 y6 ct z6 (nI a2.1) (nI k2.1) rn (nI 4) hY) kX8_good g1249 g1251 rfl gp41 g4 hP hS hY (by first | decide | omega) hl.1 rfl (by decide) (by first | decide | omega) dX8_filter_262 (fun q ce E h' H1 locs1 hE => hE.elim) (fun v hh23 H locs hq hP hS => ?_)
                              obtain ⟨rfl, rfl⟩ := hq
                              replace hP : qP D N0 (qs hv18 y (.inr (8, [.ref ms, .ref mb, .ref (ra 28), .int gr, .int 0, .int x6, .int y6, .ref od, .ref pt, .int ct, .int z6, .ref fja, .ref rja, .int (nI a2.1), .ref rcja, .ref rsja, .ref soja, .ref otja, .ref cnja, .ref laja, .int (nI k2.1), .ref ro, .int rn]))) H := hP
                              obtain ⟨hv21, ehv21⟩ : ∃ z : qH, z = qs hv18 y (.inr (8, [.ref ms, .ref mb, .ref (ra 28), .int gr, .int 0, .int x6, .int y6, .ref od, .ref pt, .int ct, .int z6, .ref fja, .ref rja, .int (nI a2.1), .ref rcja, .ref rsja, .ref soja, .ref otja, .ref cnja, .ref laja, .int (nI k2.1), .ref ro, .int rn])) := ⟨_, rfl⟩
                              rw [← ehv21] at hP
                              have khv21 : ∀ b o, b ≠ y → hv18 b = some o → hv21 b = some o := by rw [ehv21]; exact fun b o nb hb => (qs_ne nb).trans hb
                              replace hms := khv21 _ _ (fun q => by subst q; have := hms.symm.trans hY; first | cases this | simp at this) hms
                              replace hmb := khv21 _ _ (fun q => by subst q; have := hmb.symm.trans hY; first | cases this | simp at this) hmb
                              replace faw := khv21 _ _ (fun q => by have z9 := faw; rw [q] at z9; have := z9.symm.trans hY; first | cases this | simp at this) faw
                              replace fkw := khv21 _ _ (fun q => by have z9 := fkw; rw [q] at z9; have := z9.symm.trans hY; first | cases this | simp at this) fkw
                              replace fvw := khv21 _ _ (fun q => by have z9 := fvw; rw [q] at z9; have := z9.symm.trans hY; first | cases this | simp at this) fvw
                              replace faj := khv21 _ _ (fun q => by have z9 := faj; rw [q] at z9; have := z9.symm.trans hY; first | cases this | simp at this) faj
                              replace fkj := khv21 _ _ (fun q => by have z9 := fkj; rw [q] at z9; have := z9.symm.trans hY; first | cases this | simp at this) fkj
                              replace fvj := khv21 _ _ (fun q => by have z9 := fvj; rw [q] at z9; have := z9.symm.trans hY; first | cases this | simp at this) fvj
                              replace hY : hv21 y = some (.inr (8, [.ref ms, .ref mb, .ref (ra 28), .int gr, .int 0, .int x6, .int y6, .ref od, .ref pt, .int ct, .int z6, .ref fja, .ref rja, .int (nI a2.1), .ref rcja, .ref rsja, .ref soja, .ref otja, .ref cnja, .ref laja, .int (nI k2.1), .ref ro, .int rn])) := by rw [ehv21]; exact qs_self
                              clear ehv21
                              replace fr := fun b o hb n1 n2 => khv21 b o n1 (fr b o hb n1 n2)
                              refine lv_if_ne (tgt := 269) hx hb dX8_filter_265 (by decide) (fun c265 => ?_) (fun c265 => ?_)
                              · replace c265 : ¬ 1 = 0 := fun zq => c265 ((nI_eq (a := 1) (b := 0) (by omega) (by omega)).mpr zq)
                                refine lv_aload_n hx hb dX8_filter_269 rfl (lv_at hl 2 rfl) ?_
                                refine lv_iload_n hx hb dX8_filter_270 rfl (lv_at hl 3 rfl) ?_
                                refine lv_aload hx hb dX8_filter_271 (lv_at hl 1 rfl) ?_
                                refine q_get C hP faj rfl inX7 2 (by decide) g1142 rfl dX8_filter_273 ?_
                                refine lv_bipush (v := 6) hx hb dX8_filter_276 (by decide) ?_
                                refine lv_icmp_ne (tgt := 285) hx hb dX8_filter_278 (by decide) (fun c => absurd c88 c) (fun _ => ?_)
                                refine lv_iconst (v := nI 0) hx hb dX8_filter_281 (by decide) ?_
                                refine lv_goto (tgt := 287) hx hb dX8_filter_282 (by decide) ?_
                                obtain ⟨ni, rwi, Fi, Gi, hRi, hni, hLi, hKi⟩ := hrs i (by omega)
                                have api := hRi.apart hRw (hmd.two (i := i) (j := 28) (by omega) (by omega) (by omega))
                                replace hRi := hRi.keep2 (fun b o hb ho => fr b o ho (hRi.ney hY0 hb) (hb.elim (fun q => q ▸ api.1) (fun hb => hb.elim (fun q => q ▸ api.2.1) (fun q => q ▸ api.2.2))))
                                have fai := hRi.2.2.2.1
                                have fki := hRi.2.2.2.2.1
                                have fvi := hRi.2.2.2.2.2
                                unfold qRb at fai
                                unfold qJr at fki fvi
                                refine q_callV (rest := []) C (c_X8_done l D cy N0 hv21 y ms mb od pt fja rja rcja rsja soja otja cnja laja ro gr 0 x6 y6 ct z6 (nI a2.1) (nI k2.1) rn ra rk rv i (nI 0) (S j).1 (nI s2) (nI (((S j).2.2.2) + 1)) rwj nj (qCp Fj fw nj) (qCp Gj gw nj) (S i).1 (nI (S i).2.2.1) (nI (S i).2.2.2) rwi ni Fi Gi hY hms hmd ⟨hRw.1, hRw.2.1, hRw.2.2.1, faw, fkw, fvw⟩ ⟨hRi.1, hRi.2.1, hRi.2.2.1, fai, fki, fvi⟩ (by omega) (by omega)) kX8_done g1293 g1295 rfl gp45 g4 hP hS hY (by first | decide | omega) hl.1 rfl (by decide) (by first | decide | omega) dX8_filter_287 (fun q ce E h' H1 locs1 hE => hE.elim) (fun v hh24 H locs hq hP hS => ?_)
                                obtain ⟨rfl, hY9, hw9, hi9, fr9⟩ := hq
                                replace fr := fun b o hb n1 n2 n3 => fr9 b o (fr b o hb n1 n2) n1 n2 n3
                                rw [show y6 + nI 0 = y6 from Int32.add_zero _] at hY9
                                refine lv_pop hx hb dX8_filter_290 rfl ?_
                                obtain ⟨m9, f9⟩ := hM.fin hY0 (i := i) (by omega) (s := ((S j).1, (S j).2.1, s2, (((S j).2.2.2) + 1))) ⟨nj, _, _, _, hi9, by omega, by rw [qLs_cp]; exact lw.symm, Or.inl rfl⟩ hw9 fr
                                rw [if_neg c201, if_neg (fun z => z.elim (fun z => z c231) (fun z => by omega))] at hX2
                                obtain ⟨q9, r9⟩ := q7a.rowM (o' := oCd (oFa (oMv (oCa (oFa (oCd (ms, mb, ra 28, od, pt, ro, gr, cd, ca, nI m0, ct, fau, rn) 0) 0) x6) y6) z6) 0) hY0 hY9 m9 f9 ⟨rfl, rfl, rfl, rfl, rfl, rfl⟩
                                exact q_vret C hP hS ⟨rfl, A1, by rw [hX2]; exact q9, rta.tr q7a rfl r9⟩ (by omega) dX8_filter_291
                              · replace c265 : 1 = 0 := (nI_eq (a := 1) (b := 0) (by omega) (by omega)).mp c265
                                exfalso; omega
                  · replace c48 : 1 = 0 := (nI_eq (a := 1) (b := 0) (by omega) (by omega)).mp c48
                    exfalso; omega
      · have ebj : bSl p1 = false := bSl_f sl9
        refine lv_if_eq (tgt := 28) hx hb dX8_filter_12 (by decide) (fun c12 => ?_) (fun c12 => ?_)
        · replace c12 : 0 = 0 := (nI_eq (a := 0) (b := 0) (by omega) (by omega)).mp c12
          refine lv_iconst (v := nI 0) hx hb dX8_filter_28 (by decide) ?_
          refine lv_iconst (v := nI 1) hx hb dX8_filter_29 (by decide) ?_
          refine q_callV (rest := []) C (c_X8_good0 l D cy N0 h y ms mb (ra 28) od pt fi re rc rs so ot cn la ro gr cd ca (nI m0) ct fau cs ce rn (nI 1) hY) kX8_good g1249 g1251 rfl gp41 g4 hP hS hY (by first | decide | omega) hl.1 rfl (by decide) (by first | decide | omega) dX8_filter_30 (fun q ce E h' H1 locs1 hE => hE.elim) (fun v hh25 H locs hq hP hS => ?_)
          obtain ⟨rfl, rfl⟩ := hq
          replace hP : qP D N0 (qs h y (.inr (8, [.ref ms, .ref mb, .ref (ra 28), .int gr, .int (nI 1), .int ca, .int (nI m0), .ref od, .ref pt, .int ct, .int fau, .ref fi, .ref re, .int cs, .ref rc, .ref rs, .ref so, .ref ot, .ref cn, .ref la, .int ce, .ref ro, .int rn]))) H := hP
          obtain ⟨hv22, ehv22⟩ : ∃ z : qH, z = qs h y (.inr (8, [.ref ms, .ref mb, .ref (ra 28), .int gr, .int (nI 1), .int ca, .int (nI m0), .ref od, .ref pt, .int ct, .int fau, .ref fi, .ref re, .int cs, .ref rc, .ref rs, .ref so, .ref ot, .ref cn, .ref la, .int ce, .ref ro, .int rn])) := ⟨_, rfl⟩
          rw [← ehv22] at hP
          have khv22 : ∀ b o, b ≠ y → h b = some o → hv22 b = some o := by rw [ehv22]; exact fun b o nb hb => (qs_ne nb).trans hb
          replace hms := khv22 _ _ (fun q => by subst q; have := hms.symm.trans hY; first | cases this | simp at this) hms
          replace hmb := khv22 _ _ (fun q => by subst q; have := hmb.symm.trans hY; first | cases this | simp at this) hmb
          replace faw := khv22 _ _ (fun q => by have z9 := faw; rw [q] at z9; have := z9.symm.trans hY; first | cases this | simp at this) faw
          replace fkw := khv22 _ _ (fun q => by have z9 := fkw; rw [q] at z9; have := z9.symm.trans hY; first | cases this | simp at this) fkw
          replace fvw := khv22 _ _ (fun q => by have z9 := fvw; rw [q] at z9; have := z9.symm.trans hY; first | cases this | simp at this) fvw
          replace hY : hv22 y = some (.inr (8, [.ref ms, .ref mb, .ref (ra 28), .int gr, .int (nI 1), .int ca, .int (nI m0), .ref od, .ref pt, .int ct, .int fau, .ref fi, .ref re, .int cs, .ref rc, .ref rs, .ref so, .ref ot, .ref cn, .ref la, .int ce, .ref ro, .int rn])) := by rw [ehv22]; exact qs_self
          clear ehv22
          replace fr := fun b o hb n1 n2 => khv22 b o n1 (fr b o hb n1 n2)
          refine lv_if_eq (tgt := 51) hx hb dX8_filter_33 (by decide) (fun c33 => ?_) (fun c33 => ?_)
          · replace c33 : 0 = 0 := (nI_eq (a := 0) (b := 0) (by omega) (by omega)).mp c33
            have eX : X = (1, S, (ms, mb, ra 28, od, pt, ro, gr, cd, ca, nI m0, ct, fau, rn), a, k) := by rw [← hX]; unfold xs_filter; rw [if_pos (by simp [ebi, ebj])]
            obtain ⟨m8, f8⟩ := hM.fin0 hY0 (h' := hv22) ⟨hRw.1, hRw.2.1, hRw.2.2.1, faw, fkw, fvw⟩ fr
            obtain ⟨q8, r8⟩ := hQ.rowM (o' := oCd (ms, mb, ra 28, od, pt, ro, gr, cd, ca, nI m0, ct, fau, rn) 1) hY0 hY m8 f8 ⟨rfl, rfl, rfl, rfl, rfl, rfl⟩
            exact q_vret C hP hS ⟨rfl, A, by rw [eX]; exact q8, r8⟩ (by omega) dX8_filter_51
          · replace c33 : ¬ 0 = 0 := fun zq => c33 ((nI_eq (a := 0) (b := 0) (by omega) (by omega)).mpr zq)
            exfalso; omega
        · replace c12 : ¬ 0 = 0 := fun zq => c12 ((nI_eq (a := 0) (b := 0) (by omega) (by omega)).mpr zq)
          exfalso; omega
  · have ebi : bSl p0 = false := bSl_f sl9
    refine lv_if_eq (tgt := 28) hx hb dX8_filter_5 (by decide) (fun c5 => ?_) (fun c5 => ?_)
    · replace c5 : 0 = 0 := (nI_eq (a := 0) (b := 0) (by omega) (by omega)).mp c5
      refine lv_iconst (v := nI 0) hx hb dX8_filter_28 (by decide) ?_
      refine lv_iconst (v := nI 1) hx hb dX8_filter_29 (by decide) ?_
      refine q_callV (rest := []) C (c_X8_good0 l D cy N0 h y ms mb (ra 28) od pt fi re rc rs so ot cn la ro gr cd ca (nI m0) ct fau cs ce rn (nI 1) hY) kX8_good g1249 g1251 rfl gp41 g4 hP hS hY (by first | decide | omega) hl.1 rfl (by decide) (by first | decide | omega) dX8_filter_30 (fun q ce E h' H1 locs1 hE => hE.elim) (fun v hh26 H locs hq hP hS => ?_)
      obtain ⟨rfl, rfl⟩ := hq
      replace hP : qP D N0 (qs h y (.inr (8, [.ref ms, .ref mb, .ref (ra 28), .int gr, .int (nI 1), .int ca, .int (nI m0), .ref od, .ref pt, .int ct, .int fau, .ref fi, .ref re, .int cs, .ref rc, .ref rs, .ref so, .ref ot, .ref cn, .ref la, .int ce, .ref ro, .int rn]))) H := hP
      obtain ⟨hv23, ehv23⟩ : ∃ z : qH, z = qs h y (.inr (8, [.ref ms, .ref mb, .ref (ra 28), .int gr, .int (nI 1), .int ca, .int (nI m0), .ref od, .ref pt, .int ct, .int fau, .ref fi, .ref re, .int cs, .ref rc, .ref rs, .ref so, .ref ot, .ref cn, .ref la, .int ce, .ref ro, .int rn])) := ⟨_, rfl⟩
      rw [← ehv23] at hP
      have khv23 : ∀ b o, b ≠ y → h b = some o → hv23 b = some o := by rw [ehv23]; exact fun b o nb hb => (qs_ne nb).trans hb
      replace hms := khv23 _ _ (fun q => by subst q; have := hms.symm.trans hY; first | cases this | simp at this) hms
      replace hmb := khv23 _ _ (fun q => by subst q; have := hmb.symm.trans hY; first | cases this | simp at this) hmb
      replace faw := khv23 _ _ (fun q => by have z9 := faw; rw [q] at z9; have := z9.symm.trans hY; first | cases this | simp at this) faw
      replace fkw := khv23 _ _ (fun q => by have z9 := fkw; rw [q] at z9; have := z9.symm.trans hY; first | cases this | simp at this) fkw
      replace fvw := khv23 _ _ (fun q => by have z9 := fvw; rw [q] at z9; have := z9.symm.trans hY; first | cases this | simp at this) fvw
      replace hY : hv23 y = some (.inr (8, [.ref ms, .ref mb, .ref (ra 28), .int gr, .int (nI 1), .int ca, .int (nI m0), .ref od, .ref pt, .int ct, .int fau, .ref fi, .ref re, .int cs, .ref rc, .ref rs, .ref so, .ref ot, .ref cn, .ref la, .int ce, .ref ro, .int rn])) := by rw [ehv23]; exact qs_self
      clear ehv23
      replace fr := fun b o hb n1 n2 => khv23 b o n1 (fr b o hb n1 n2)
      refine lv_if_eq (tgt := 51) hx hb dX8_filter_33 (by decide) (fun c33 => ?_) (fun c33 => ?_)
      · replace c33 : 0 = 0 := (nI_eq (a := 0) (b := 0) (by omega) (by omega)).mp c33
        have eX : X = (1, S, (ms, mb, ra 28, od, pt, ro, gr, cd, ca, nI m0, ct, fau, rn), a, k) := by rw [← hX]; unfold xs_filter; rw [if_pos (by simp [ebi])]
        obtain ⟨m8, f8⟩ := hM.fin0 hY0 (h' := hv23) ⟨hRw.1, hRw.2.1, hRw.2.2.1, faw, fkw, fvw⟩ fr
        obtain ⟨q8, r8⟩ := hQ.rowM (o' := oCd (ms, mb, ra 28, od, pt, ro, gr, cd, ca, nI m0, ct, fau, rn) 1) hY0 hY m8 f8 ⟨rfl, rfl, rfl, rfl, rfl, rfl⟩
        exact q_vret C hP hS ⟨rfl, A, by rw [eX]; exact q8, r8⟩ (by omega) dX8_filter_51
      · replace c33 : ¬ 0 = 0 := fun zq => c33 ((nI_eq (a := 0) (b := 0) (by omega) (by omega)).mpr zq)
        exfalso; omega
    · replace c5 : ¬ 0 = 0 := fun zq => c5 ((nI_eq (a := 0) (b := 0) (by omega) (by omega)).mpr zq)
      exfalso; omega
