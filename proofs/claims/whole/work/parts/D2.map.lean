theorem xMap_f {o : qYf} {a : qWd} {k : qKd} {s n : Nat} {c : Int64} (ho : oFq o = 0) : ∃ x z, (xMap o a k s n c).2.1 = oFa (oCa o x) z ∧ (z = 0 ∨ z = 1) := by
  have e : oFa o 0 = o := by rw [← ho]; rfl
  unfold xMap
  split
  · exact ⟨oCq o, 0, by show o = _; exact e.symm, Or.inl rfl⟩
  · split
    · exact ⟨_, 1, rfl, Or.inr rfl⟩
    · exact ⟨_, 0, by show oCa o _ = _; rw [show oFa (oCa o (o.2.2.2.2.2.2.2.2.1 + nI 1)) 0 = oCa (oFa o 0) (o.2.2.2.2.2.2.2.2.1 + nI 1) from rfl, e], Or.inl rfl⟩
/-- does the function fail at one of the keys -/
def xNo (w : Nat) (c : Int64) (L : qKV) : Bool := L.any (fun p => (xFn w c p.1).isNone)
theorem xNo_row {w n : Nat} {c : Int64} {kd : Int32} {f g : Nat → Int64} : xNo w c (qLs kd f g n) = true ↔ ∃ j, j < n ∧ xFn w c (f j) = none := by
  unfold xNo
  rw [List.any_eq_true]
  constructor
  · rintro ⟨p, hp, e⟩
    obtain ⟨j, hj, rfl⟩ := List.mem_map.mp hp
    exact ⟨j, List.mem_range.mp hj, Option.isNone_iff_eq_none.mp e⟩
  · rintro ⟨j, hj, e⟩
    exact ⟨_, List.mem_of_getElem? (qLs_get2 (kd := kd) (g := g) hj), Option.isNone_iff_eq_none.mpr e⟩
def xMpL (w : Nat) (c : Int64) (L : qKV) : qKV := L.map (fun p => ((xFn w c p.1).getD 0, p.2))
theorem xMpL_row {w n : Nat} {c : Int64} {kd : Int32} {f g f2 g2 : Nat → Int64} (hf : ∀ j, j < n → f2 j = (xFn w c (f j)).getD 0) (hg : ∀ j, j < n → g2 j = g j) : qLs kd f2 g2 n = xMpL w c (qLs kd f g n) := by
  refine qLs_eq (by unfold xMpL; rw [List.length_map, qLs_len]) (fun j hj => ?_)
  unfold xMpL
  rw [List.getElem?_map, qLs_get2 hj, hf j hj, hg j hj]
  rfl
def xr_map (S : Nat → qSlot) (W : qWo) (i j q : Nat) (c : Int64) : Int32 × (Nat → qSlot) × qWo :=
  if (S j).1 = 6 then (if oFq (xMap (oFa (oCd W.1 0) 0) W.2.1 W.2.2 (S j).2.2.1 q c).2.1 = 1 then (3, S, (xMap (oFa (oCd W.1 0) 0) W.2.1 W.2.2 (S j).2.2.1 q c).2) else if 100 < (S j).2.2.2 + 1 then (4, S, (xMap (oFa (oCd W.1 0) 0) W.2.1 W.2.2 (S j).2.2.1 q c).2) else (0, qU S i ((S j).1, (S j).2.1, (xMap (oFa (oCd W.1 0) 0) W.2.1 W.2.2 (S j).2.2.1 q c).1, (S j).2.2.2 + 1), (xMap (oFa (oCd W.1 0) 0) W.2.1 W.2.2 (S j).2.2.1 q c).2)) else
  if xNo q c (S j).2.1 = true then (3, S, oFa W.1 1, W.2) else if 20000 < (oMq W.1).toNatClampNeg + (S j).2.1.length then (4, S, oFa W.1 0, W.2) else (0, qU S i ((S j).1, xMpL q c (S j).2.1, (S j).2.2), oMv (oFa W.1 0) (oMq W.1 + nI (S j).2.1.length), W.2)
def xs_map (S : Nat → qSlot) (W : qWo) (p0 p1 p2 : Int32) (c : Int64) : Int32 × (Nat → qSlot) × qWo := if bSl p0 = false ∨ bSl p1 = false ∨ p2 < 0 ∨ 6 < p2.toNatClampNeg then (1, S, W) else if bHo (S p1.toNatClampNeg).1 65 = false then (2, S, W) else xr_map S W p0.toNatClampNeg p1.toNatClampNeg p2.toNatClampNeg c
theorem dX8_map_53 : decode cX8_map 53 = .ok (.aload_n 0, 1) := by decide +kernel
theorem dX8_map_54 : decode cX8_map 54 = .ok (.getfield 9, 3) := by decide +kernel
theorem dX8_map_57 : decode cX8_map 57 = .ok (.iload_n 2, 1) := by decide +kernel
theorem dX8_map_58 : decode cX8_map 58 = .ok (.aaload, 1) := by decide +kernel
theorem dX8_map_59 : decode cX8_map 59 = .ok (.astore 6, 2) := by decide +kernel
theorem dX8_map_61 : decode cX8_map 61 = .ok (.aload 6, 2) := by decide +kernel
theorem dX8_map_63 : decode cX8_map 63 = .ok (.aload_n 0, 1) := by decide +kernel
theorem dX8_map_64 : decode cX8_map 64 = .ok (.getfield 19, 3) := by decide +kernel
theorem dX8_map_67 : decode cX8_map 67 = .ok (.invokestatic 104, 3) := by decide +kernel
theorem dX8_map_70 : decode cX8_map 70 = .ok (.aload_n 0, 1) := by decide +kernel
theorem dX8_map_71 : decode cX8_map 71 = .ok (.iconst 0, 1) := by decide +kernel
theorem dX8_map_72 : decode cX8_map 72 = .ok (.putfield 155, 3) := by decide +kernel
theorem dX8_map_75 : decode cX8_map 75 = .ok (.aload 6, 2) := by decide +kernel
theorem dX8_map_77 : decode cX8_map 77 = .ok (.getfield 75, 3) := by decide +kernel
theorem dX8_map_80 : decode cX8_map 80 = .ok (.bipush 6, 2) := by decide +kernel
theorem dX8_map_82 : decode cX8_map 82 = .ok (.if_icmp .ne 39, 3) := by decide +kernel
theorem dX8_map_85 : decode cX8_map 85 = .ok (.aload_n 0, 1) := by decide +kernel
theorem dX8_map_86 : decode cX8_map 86 = .ok (.getfield 19, 3) := by decide +kernel
theorem dX8_map_89 : decode cX8_map 89 = .ok (.aload_n 0, 1) := by decide +kernel
theorem dX8_map_90 : decode cX8_map 90 = .ok (.aload 6, 2) := by decide +kernel
theorem dX8_map_92 : decode cX8_map 92 = .ok (.getfield 81, 3) := by decide +kernel
theorem dX8_map_95 : decode cX8_map 95 = .ok (.iload_n 3, 1) := by decide +kernel
theorem dX8_map_96 : decode cX8_map 96 = .ok (.lload 4, 2) := by decide +kernel
theorem dX8_map_98 : decode cX8_map 98 = .ok (.invokevirtual 205, 3) := by decide +kernel
theorem dX8_map_101 : decode cX8_map 101 = .ok (.putfield 81, 3) := by decide +kernel
theorem dX8_map_104 : decode cX8_map 104 = .ok (.aload_n 0, 1) := by decide +kernel
theorem dX8_map_105 : decode cX8_map 105 = .ok (.getfield 19, 3) := by decide +kernel
theorem dX8_map_108 : decode cX8_map 108 = .ok (.aload 6, 2) := by decide +kernel
theorem dX8_map_110 : decode cX8_map 110 = .ok (.getfield 84, 3) := by decide +kernel
theorem dX8_map_113 : decode cX8_map 113 = .ok (.iconst 1, 1) := by decide +kernel
theorem dX8_map_114 : decode cX8_map 114 = .ok (.iadd, 1) := by decide +kernel
theorem dX8_map_115 : decode cX8_map 115 = .ok (.putfield 84, 3) := by decide +kernel
theorem dX8_map_118 : decode cX8_map 118 = .ok (.goto 47, 3) := by decide +kernel
theorem dX8_map_121 : decode cX8_map 121 = .ok (.iconst 0, 1) := by decide +kernel
theorem dX8_map_122 : decode cX8_map 122 = .ok (.istore 7, 2) := by decide +kernel
theorem dX8_map_124 : decode cX8_map 124 = .ok (.iload 7, 2) := by decide +kernel
theorem dX8_map_126 : decode cX8_map 126 = .ok (.aload 6, 2) := by decide +kernel
theorem dX8_map_128 : decode cX8_map 128 = .ok (.getfield 78, 3) := by decide +kernel
theorem dX8_map_131 : decode cX8_map 131 = .ok (.if_icmp .ge 34, 3) := by decide +kernel
theorem dX8_map_134 : decode cX8_map 134 = .ok (.aload_n 0, 1) := by decide +kernel
theorem dX8_map_135 : decode cX8_map 135 = .ok (.getfield 19, 3) := by decide +kernel
theorem dX8_map_138 : decode cX8_map 138 = .ok (.getfield 90, 3) := by decide +kernel
theorem dX8_map_141 : decode cX8_map 141 = .ok (.iload 7, 2) := by decide +kernel
theorem dX8_map_143 : decode cX8_map 143 = .ok (.aload_n 0, 1) := by decide +kernel
theorem dX8_map_144 : decode cX8_map 144 = .ok (.iload_n 3, 1) := by decide +kernel
theorem dX8_map_145 : decode cX8_map 145 = .ok (.lload 4, 2) := by decide +kernel
theorem dX8_map_147 : decode cX8_map 147 = .ok (.aload 6, 2) := by decide +kernel
theorem dX8_map_149 : decode cX8_map 149 = .ok (.getfield 90, 3) := by decide +kernel
theorem dX8_map_152 : decode cX8_map 152 = .ok (.iload 7, 2) := by decide +kernel
theorem dX8_map_154 : decode cX8_map 154 = .ok (.laload, 1) := by decide +kernel
theorem dX8_map_155 : decode cX8_map 155 = .ok (.invokevirtual 198, 3) := by decide +kernel
theorem dX8_map_158 : decode cX8_map 158 = .ok (.lastore, 1) := by decide +kernel
theorem dX8_map_159 : decode cX8_map 159 = .ok (.iinc 7 1, 3) := by decide +kernel
theorem dX8_map_162 : decode cX8_map 162 = .ok (.goto (-38), 3) := by decide +kernel
theorem dX8_map_165 : decode cX8_map 165 = .ok (.aload_n 0, 1) := by decide +kernel
theorem dX8_map_166 : decode cX8_map 166 = .ok (.aload_n 0, 1) := by decide +kernel
theorem dX8_map_167 : decode cX8_map 167 = .ok (.getfield 155, 3) := by decide +kernel
theorem dX8_map_170 : decode cX8_map 170 = .ok (.iconst 1, 1) := by decide +kernel
theorem dX8_map_171 : decode cX8_map 171 = .ok (.if_icmp .eq 7, 3) := by decide +kernel
theorem dX8_map_174 : decode cX8_map 174 = .ok (.iconst 1, 1) := by decide +kernel
theorem dX8_map_175 : decode cX8_map 175 = .ok (.goto 4, 3) := by decide +kernel
theorem dX8_map_178 : decode cX8_map 178 = .ok (.iconst 0, 1) := by decide +kernel
theorem dX8_map_179 : decode cX8_map 179 = .ok (.iconst 3, 1) := by decide +kernel
theorem dX8_map_180 : decode cX8_map 180 = .ok (.invokevirtual 100, 3) := by decide +kernel
theorem dX8_map_183 : decode cX8_map 183 = .ok (.ifCond .eq 58, 3) := by decide +kernel
theorem dX8_map_186 : decode cX8_map 186 = .ok (.aload_n 0, 1) := by decide +kernel
theorem dX8_map_187 : decode cX8_map 187 = .ok (.aload 6, 2) := by decide +kernel
theorem dX8_map_189 : decode cX8_map 189 = .ok (.getfield 75, 3) := by decide +kernel
theorem dX8_map_192 : decode cX8_map 192 = .ok (.bipush 6, 2) := by decide +kernel
theorem dX8_map_194 : decode cX8_map 194 = .ok (.if_icmp .ne 30, 3) := by decide +kernel
theorem dX8_map_197 : decode cX8_map 197 = .ok (.aload_n 0, 1) := by decide +kernel
theorem dX8_map_198 : decode cX8_map 198 = .ok (.getfield 155, 3) := by decide +kernel
theorem dX8_map_201 : decode cX8_map 201 = .ok (.ifCond .ne 19, 3) := by decide +kernel
theorem dX8_map_204 : decode cX8_map 204 = .ok (.aload_n 0, 1) := by decide +kernel
theorem dX8_map_205 : decode cX8_map 205 = .ok (.getfield 19, 3) := by decide +kernel
theorem dX8_map_208 : decode cX8_map 208 = .ok (.getfield 84, 3) := by decide +kernel
theorem dX8_map_211 : decode cX8_map 211 = .ok (.bipush 100, 2) := by decide +kernel
theorem dX8_map_213 : decode cX8_map 213 = .ok (.if_icmp .gt 7, 3) := by decide +kernel
theorem dX8_map_216 : decode cX8_map 216 = .ok (.iconst 1, 1) := by decide +kernel
theorem dX8_map_217 : decode cX8_map 217 = .ok (.goto 17, 3) := by decide +kernel
theorem dX8_map_220 : decode cX8_map 220 = .ok (.iconst 0, 1) := by decide +kernel
theorem dX8_map_221 : decode cX8_map 221 = .ok (.goto 13, 3) := by decide +kernel
theorem dX8_map_224 : decode cX8_map 224 = .ok (.aload_n 0, 1) := by decide +kernel
theorem dX8_map_225 : decode cX8_map 225 = .ok (.iconst 0, 1) := by decide +kernel
theorem dX8_map_226 : decode cX8_map 226 = .ok (.aload 6, 2) := by decide +kernel
theorem dX8_map_228 : decode cX8_map 228 = .ok (.getfield 78, 3) := by decide +kernel
theorem dX8_map_231 : decode cX8_map 231 = .ok (.invokevirtual 165, 3) := by decide +kernel
theorem dX8_map_234 : decode cX8_map 234 = .ok (.iconst 4, 1) := by decide +kernel
theorem dX8_map_235 : decode cX8_map 235 = .ok (.invokevirtual 100, 3) := by decide +kernel
theorem dX8_map_238 : decode cX8_map 238 = .ok (.ifCond .ne 4, 3) := by decide +kernel
theorem dX8_map_241 : decode cX8_map 241 = .ok (.return_, 1) := by decide +kernel
theorem dX8_map_242 : decode cX8_map 242 = .ok (.aload_n 0, 1) := by decide +kernel
theorem dX8_map_243 : decode cX8_map 243 = .ok (.iload_n 1, 1) := by decide +kernel
theorem dX8_map_244 : decode cX8_map 244 = .ok (.aload 6, 2) := by decide +kernel
theorem dX8_map_246 : decode cX8_map 246 = .ok (.getfield 75, 3) := by decide +kernel
theorem dX8_map_249 : decode cX8_map 249 = .ok (.bipush 6, 2) := by decide +kernel
theorem dX8_map_251 : decode cX8_map 251 = .ok (.if_icmp .ne 7, 3) := by decide +kernel
theorem dX8_map_254 : decode cX8_map 254 = .ok (.iconst 0, 1) := by decide +kernel
theorem dX8_map_255 : decode cX8_map 255 = .ok (.goto 8, 3) := by decide +kernel
theorem dX8_map_258 : decode cX8_map 258 = .ok (.aload 6, 2) := by decide +kernel
theorem dX8_map_260 : decode cX8_map 260 = .ok (.getfield 78, 3) := by decide +kernel
theorem dX8_map_263 : decode cX8_map 263 = .ok (.invokevirtual 135, 3) := by decide +kernel
theorem dX8_map_266 : decode cX8_map 266 = .ok (.pop, 1) := by decide +kernel
theorem dX8_map_267 : decode cX8_map 267 = .ok (.return_, 1) := by decide +kernel
set_option maxRecDepth 100000 in
set_option maxHeartbeats 4000000 in
theorem w_map (l : Launch) (D : va_G) (cy : Nat → ClassId) (N0 : Nat) (h : qH) (y ms mb mw od pt fi re rc rs so ot cn la ro : Nat) (gr cd ca mv ct fau cs ce rn : Int32) (ra rk rv : Nat → Nat) (S : Nat → qSlot) (pa : Nat → Nat) (A : Nat → Prop) (a : qWd) (k : qKd) (R : Nat → List Int64) (ad : Nat → Nat) (Rn : Nat) (Bd sl d dc : Nat) (dp : Nat → Nat) (F : qWo → Nat → Nat × qWo) (p0 p1 p2 : Int32) (p3 : Int64) (X : Int32 × (Nat → qSlot) × qWo) (hY : h y = some (.inr (8, [.ref ms, .ref mb, .ref mw, .int gr, .int cd, .int ca, .int mv, .ref od, .ref pt, .int ct, .int fau, .ref fi, .ref re, .int cs, .ref rc, .ref rs, .ref so, .ref ot, .ref cn, .ref la, .int ce, .ref ro, .int rn]))) (hQ : qRF cy h y A ra rk rv pa (ms, mb, mw, od, pt, ro, gr, cd, ca, mv, ct, fau, rn) a k S Rn R ad) (hI : ∀ i, i < 28 → qOk (S i).1 (S i).2.1) (hV : qWv Bd sl Rn dp ((ms, mb, mw, od, pt, ro, gr, cd, ca, mv, ct, fau, rn), a, k)) (hB : Bd ≤ 4000) (hF : qFS l D cy N0 y Bd Rn R ad F d) (hG : qFg Bd Rn F d) (hdc : dc < d) (hSt : ∀ i, i < 24 → (S i).1 = 6 → (S i).2.2.1 < a.1 ∧ dp (S i).2.2.1 ≤ dc) (hDp : ∀ i, i < 24 → (S i).2.2.2 ≤ 100) (hX : xs_map S ((ms, mb, mw, od, pt, ro, gr, cd, ca, mv, ct, fau, rn), a, k) p0 p1 p2 p3 = X) : qC l D cy N0 yX8_map cX8_map 8 none 5 200 (qP1 X.2.2.2.1 - qP1 a) (qP2 X.2.2.2.1 - qP2 a) [.ref y, .int p0, .int p1, .int p2, .long p3] h (fun v h' => v = none ∧ ∃ A', qRF cy h' y A' ra rk rv pa (oCd X.2.2.1 X.1) X.2.2.2.1 X.2.2.2.2 X.2.1 Rn R ad ∧ qFR h h' y od ra rk rv pa A A') (fun E h' => False) := by
  refine q_ofW (by decide) (by exact Nat.le_of_ble_eq_true rfl) ?_
  intro p e s m below meth c ls C hP hl
  have hx := C.1
  have hb := C.2.1
  have hS : va_S (qA N0) s.heap s.heap [] := va_S.rf
  have hl : lv_has ls 8 [(0, .ref y), (1, .int p0), (2, .int p1), (3, .int p2), (4, .long p3)] := hl
  have hM : qMR cy h ms mb mw ra rk rv S := hQ.2.2.1
  obtain ⟨m0, em0, hm0, hbd0⟩ := id hV.m
  replace em0 : mv = nI m0 := em0
  subst em0
  have ecm : (nI m0).toNatClampNeg = m0 := nI_clamp (by omega)
  dsimp only at hbd0
  have hY0 := hY
  obtain ⟨hms, hmb, hmw, hmd, hrs, kdw, smw, dpw, rww, nw, fw, gw, hRw⟩ := id hM
  subst hmw
  have fr : ∀ b o, h b = some o → b ≠ y → qOf (ra 28) (rk 28) (rv 28) b → h b = some o := fun b o hb _ _ => hb
  have faw := hRw.2.2.2.1
  have fkw := hRw.2.2.2.2.1
  have fvw := hRw.2.2.2.2.2
  unfold qRb at faw
  unfold qJr at fkw fvw
  refine lv_aload_n hx hb dX8_map_0 rfl (lv_at hl 0 rfl) ?_
  refine lv_iload_n hx hb dX8_map_1 rfl (lv_at hl 1 rfl) ?_
  refine q_callS (rest := [.ref y]) C (c_X8_isSlot l D cy N0 h p0) kX8_isSlot g1246 g1247 hP hS (by first | decide | omega) hl.1 rfl (by simp [q_catrf, q_cati, q_catl, q_cata, q_catn]) (by first | decide | omega) dX8_map_2 (fun q ce E h' H1 locs1 hE => hE.elim) (fun v hh1 H locs hq hP hS => ?_)
  obtain ⟨rfl, ⟨rfl, sl9⟩ | ⟨rfl, sl9⟩⟩ := hq
  · obtain ⟨i, hi, rfl⟩ := sl9.of
    have ebi : bSl (nI i) = true := bSl_t sl9
    have eci : (nI i).toNatClampNeg = i := nI_clamp (by omega)
    refine lv_if_eq (tgt := 29) hx hb dX8_map_5 (by decide) (fun c5 => ?_) (fun c5 => ?_)
    · replace c5 : 1 = 0 := (nI_eq (a := 1) (b := 0) (by omega) (by omega)).mp c5
      exfalso; omega
    · replace c5 : ¬ 1 = 0 := fun zq => c5 ((nI_eq (a := 1) (b := 0) (by omega) (by omega)).mpr zq)
      refine lv_iload_n hx hb dX8_map_8 rfl (lv_at hl 2 rfl) ?_
      refine q_callS (rest := [.ref y]) C (c_X8_isSlot l D cy N0 h p1) kX8_isSlot g1246 g1247 hP hS (by first | decide | omega) hl.1 rfl (by simp [q_catrf, q_cati, q_catl, q_cata, q_catn]) (by first | decide | omega) dX8_map_9 (fun q ce E h' H1 locs1 hE => hE.elim) (fun v hh2 H locs hq hP hS => ?_)
      obtain ⟨rfl, ⟨rfl, sl9⟩ | ⟨rfl, sl9⟩⟩ := hq
      · obtain ⟨j, hj, rfl⟩ := sl9.of
        have ebj : bSl (nI j) = true := bSl_t sl9
        have ecj : (nI j).toNatClampNeg = j := nI_clamp (by omega)
        refine lv_if_eq (tgt := 29) hx hb dX8_map_12 (by decide) (fun c12 => ?_) (fun c12 => ?_)
        · replace c12 : 1 = 0 := (nI_eq (a := 1) (b := 0) (by omega) (by omega)).mp c12
          exfalso; omega
        · replace c12 : ¬ 1 = 0 := fun zq => c12 ((nI_eq (a := 1) (b := 0) (by omega) (by omega)).mpr zq)
          refine lv_iload_n hx hb dX8_map_15 rfl (lv_at hl 3 rfl) ?_
          refine lv_if_lt (tgt := 29) hx hb dX8_map_16 (by decide) (fun c16 => ?_) (fun c16 => ?_)
          · refine lv_iconst (v := nI 0) hx hb dX8_map_29 (by decide) ?_
            refine lv_iconst (v := nI 1) hx hb dX8_map_30 (by decide) ?_
            refine q_callV (rest := []) C (c_X8_good0 l D cy N0 h y ms mb (ra 28) od pt fi re rc rs so ot cn la ro gr cd ca (nI m0) ct fau cs ce rn (nI 1) hY) kX8_good g1249 g1251 rfl gp41 g4 hP hS hY (by first | decide | omega) hl.1 rfl (by decide) (by first | decide | omega) dX8_map_31 (fun q ce E h' H1 locs1 hE => hE.elim) (fun v hh3 H locs hq hP hS => ?_)
            obtain ⟨rfl, rfl⟩ := hq
            replace hP : qP D N0 (qs h y (.inr (8, [.ref ms, .ref mb, .ref (ra 28), .int gr, .int (nI 1), .int ca, .int (nI m0), .ref od, .ref pt, .int ct, .int fau, .ref fi, .ref re, .int cs, .ref rc, .ref rs, .ref so, .ref ot, .ref cn, .ref la, .int ce, .ref ro, .int rn]))) H := hP
            obtain ⟨hv1, ehv1⟩ : ∃ z : qH, z = qs h y (.inr (8, [.ref ms, .ref mb, .ref (ra 28), .int gr, .int (nI 1), .int ca, .int (nI m0), .ref od, .ref pt, .int ct, .int fau, .ref fi, .ref re, .int cs, .ref rc, .ref rs, .ref so, .ref ot, .ref cn, .ref la, .int ce, .ref ro, .int rn])) := ⟨_, rfl⟩
            rw [← ehv1] at hP
            have khv1 : ∀ b o, b ≠ y → h b = some o → hv1 b = some o := by rw [ehv1]; exact fun b o nb hb => (qs_ne nb).trans hb
            replace hms := khv1 _ _ (fun q => by subst q; have := hms.symm.trans hY; first | cases this | simp at this) hms
            replace hmb := khv1 _ _ (fun q => by subst q; have := hmb.symm.trans hY; first | cases this | simp at this) hmb
            replace faw := khv1 _ _ (fun q => by have z9 := faw; rw [q] at z9; have := z9.symm.trans hY; first | cases this | simp at this) faw
            replace fkw := khv1 _ _ (fun q => by have z9 := fkw; rw [q] at z9; have := z9.symm.trans hY; first | cases this | simp at this) fkw
            replace fvw := khv1 _ _ (fun q => by have z9 := fvw; rw [q] at z9; have := z9.symm.trans hY; first | cases this | simp at this) fvw
            replace hY : hv1 y = some (.inr (8, [.ref ms, .ref mb, .ref (ra 28), .int gr, .int (nI 1), .int ca, .int (nI m0), .ref od, .ref pt, .int ct, .int fau, .ref fi, .ref re, .int cs, .ref rc, .ref rs, .ref so, .ref ot, .ref cn, .ref la, .int ce, .ref ro, .int rn])) := by rw [ehv1]; exact qs_self
            clear ehv1
            replace fr := fun b o hb n1 n2 => khv1 b o n1 (fr b o hb n1 n2)
            refine lv_if_eq (tgt := 52) hx hb dX8_map_34 (by decide) (fun c34 => ?_) (fun c34 => ?_)
            · replace c34 : 0 = 0 := (nI_eq (a := 0) (b := 0) (by omega) (by omega)).mp c34
              have eX : X = (1, S, (ms, mb, ra 28, od, pt, ro, gr, cd, ca, nI m0, ct, fau, rn), a, k) := by rw [← hX]; unfold xs_map; rw [if_pos (Or.inr (Or.inr (Or.inl c16)))]
              obtain ⟨m8, f8⟩ := hM.fin0 hY0 (h' := hv1) ⟨hRw.1, hRw.2.1, hRw.2.2.1, faw, fkw, fvw⟩ fr
              obtain ⟨q8, r8⟩ := hQ.rowM (o' := oCd (ms, mb, ra 28, od, pt, ro, gr, cd, ca, nI m0, ct, fau, rn) 1) hY0 hY m8 f8 ⟨rfl, rfl, rfl, rfl, rfl, rfl⟩
              exact q_vret C hP hS ⟨rfl, A, by rw [eX]; exact q8, r8⟩ (by omega) dX8_map_52
            · replace c34 : ¬ 0 = 0 := fun zq => c34 ((nI_eq (a := 0) (b := 0) (by omega) (by omega)).mpr zq)
              exfalso; omega
          · obtain ⟨q, hq9, rfl⟩ := nI_of c16
            have ecq : (nI q).toNatClampNeg = q := nI_clamp hq9
            refine lv_iload_n hx hb dX8_map_19 rfl (lv_at hl 3 rfl) ?_
            refine lv_bipush (v := nI 6) hx hb dX8_map_20 (by decide) ?_
            refine lv_icmp_gt (tgt := 29) hx hb dX8_map_22 (by decide) (fun c22 => ?_) (fun c22 => ?_)
            · replace c22 : 6 < q := (nI_ltI (a := 6) (b := q) (by omega) (by omega)).mp c22
              refine lv_iconst (v := nI 0) hx hb dX8_map_29 (by decide) ?_
              refine lv_iconst (v := nI 1) hx hb dX8_map_30 (by decide) ?_
              refine q_callV (rest := []) C (c_X8_good0 l D cy N0 h y ms mb (ra 28) od pt fi re rc rs so ot cn la ro gr cd ca (nI m0) ct fau cs ce rn (nI 1) hY) kX8_good g1249 g1251 rfl gp41 g4 hP hS hY (by first | decide | omega) hl.1 rfl (by decide) (by first | decide | omega) dX8_map_31 (fun q ce E h' H1 locs1 hE => hE.elim) (fun v hh4 H locs hq hP hS => ?_)
              obtain ⟨rfl, rfl⟩ := hq
              replace hP : qP D N0 (qs h y (.inr (8, [.ref ms, .ref mb, .ref (ra 28), .int gr, .int (nI 1), .int ca, .int (nI m0), .ref od, .ref pt, .int ct, .int fau, .ref fi, .ref re, .int cs, .ref rc, .ref rs, .ref so, .ref ot, .ref cn, .ref la, .int ce, .ref ro, .int rn]))) H := hP
              obtain ⟨hv2, ehv2⟩ : ∃ z : qH, z = qs h y (.inr (8, [.ref ms, .ref mb, .ref (ra 28), .int gr, .int (nI 1), .int ca, .int (nI m0), .ref od, .ref pt, .int ct, .int fau, .ref fi, .ref re, .int cs, .ref rc, .ref rs, .ref so, .ref ot, .ref cn, .ref la, .int ce, .ref ro, .int rn])) := ⟨_, rfl⟩
              rw [← ehv2] at hP
              have khv2 : ∀ b o, b ≠ y → h b = some o → hv2 b = some o := by rw [ehv2]; exact fun b o nb hb => (qs_ne nb).trans hb
              replace hms := khv2 _ _ (fun q => by subst q; have := hms.symm.trans hY; first | cases this | simp at this) hms
              replace hmb := khv2 _ _ (fun q => by subst q; have := hmb.symm.trans hY; first | cases this | simp at this) hmb
              replace faw := khv2 _ _ (fun q => by have z9 := faw; rw [q] at z9; have := z9.symm.trans hY; first | cases this | simp at this) faw
              replace fkw := khv2 _ _ (fun q => by have z9 := fkw; rw [q] at z9; have := z9.symm.trans hY; first | cases this | simp at this) fkw
              replace fvw := khv2 _ _ (fun q => by have z9 := fvw; rw [q] at z9; have := z9.symm.trans hY; first | cases this | simp at this) fvw
              replace hY : hv2 y = some (.inr (8, [.ref ms, .ref mb, .ref (ra 28), .int gr, .int (nI 1), .int ca, .int (nI m0), .ref od, .ref pt, .int ct, .int fau, .ref fi, .ref re, .int cs, .ref rc, .ref rs, .ref so, .ref ot, .ref cn, .ref la, .int ce, .ref ro, .int rn])) := by rw [ehv2]; exact qs_self
              clear ehv2
              replace fr := fun b o hb n1 n2 => khv2 b o n1 (fr b o hb n1 n2)
              refine lv_if_eq (tgt := 52) hx hb dX8_map_34 (by decide) (fun c34 => ?_) (fun c34 => ?_)
              · replace c34 : 0 = 0 := (nI_eq (a := 0) (b := 0) (by omega) (by omega)).mp c34
                have eX : X = (1, S, (ms, mb, ra 28, od, pt, ro, gr, cd, ca, nI m0, ct, fau, rn), a, k) := by rw [← hX]; unfold xs_map; rw [if_pos (Or.inr (Or.inr (Or.inr (by rw [ecq]; omega))))]
                obtain ⟨m8, f8⟩ := hM.fin0 hY0 (h' := hv2) ⟨hRw.1, hRw.2.1, hRw.2.2.1, faw, fkw, fvw⟩ fr
                obtain ⟨q8, r8⟩ := hQ.rowM (o' := oCd (ms, mb, ra 28, od, pt, ro, gr, cd, ca, nI m0, ct, fau, rn) 1) hY0 hY m8 f8 ⟨rfl, rfl, rfl, rfl, rfl, rfl⟩
                exact q_vret C hP hS ⟨rfl, A, by rw [eX]; exact q8, r8⟩ (by omega) dX8_map_52
              · replace c34 : ¬ 0 = 0 := fun zq => c34 ((nI_eq (a := 0) (b := 0) (by omega) (by omega)).mpr zq)
                exfalso; omega
            · replace c22 : ¬ 6 < q := fun zq => c22 ((nI_ltI (a := 6) (b := q) (by omega) (by omega)).mpr zq)
              refine lv_iconst (v := nI 1) hx hb dX8_map_25 (by decide) ?_
              refine lv_goto (tgt := 30) hx hb dX8_map_26 (by decide) ?_
              refine lv_iconst (v := nI 1) hx hb dX8_map_30 (by decide) ?_
              refine q_callV (rest := []) C (c_X8_good1 l D cy N0 h y ms mb (ra 28) od pt fi re rc rs so ot cn la ro gr cd ca (nI m0) ct fau cs ce rn (nI 1) hY) kX8_good g1249 g1251 rfl gp41 g4 hP hS hY (by first | decide | omega) hl.1 rfl (by decide) (by first | decide | omega) dX8_map_31 (fun q ce E h' H1 locs1 hE => hE.elim) (fun v hh5 H locs hq hP hS => ?_)
              obtain ⟨rfl, rfl⟩ := hq
              replace hP : qP D N0 (qs h y (.inr (8, [.ref ms, .ref mb, .ref (ra 28), .int gr, .int 0, .int ca, .int (nI m0), .ref od, .ref pt, .int ct, .int fau, .ref fi, .ref re, .int cs, .ref rc, .ref rs, .ref so, .ref ot, .ref cn, .ref la, .int ce, .ref ro, .int rn]))) H := hP
              obtain ⟨hv3, ehv3⟩ : ∃ z : qH, z = qs h y (.inr (8, [.ref ms, .ref mb, .ref (ra 28), .int gr, .int 0, .int ca, .int (nI m0), .ref od, .ref pt, .int ct, .int fau, .ref fi, .ref re, .int cs, .ref rc, .ref rs, .ref so, .ref ot, .ref cn, .ref la, .int ce, .ref ro, .int rn])) := ⟨_, rfl⟩
              rw [← ehv3] at hP
              have khv3 : ∀ b o, b ≠ y → h b = some o → hv3 b = some o := by rw [ehv3]; exact fun b o nb hb => (qs_ne nb).trans hb
              replace hms := khv3 _ _ (fun q => by subst q; have := hms.symm.trans hY; first | cases this | simp at this) hms
              replace hmb := khv3 _ _ (fun q => by subst q; have := hmb.symm.trans hY; first | cases this | simp at this) hmb
              replace faw := khv3 _ _ (fun q => by have z9 := faw; rw [q] at z9; have := z9.symm.trans hY; first | cases this | simp at this) faw
              replace fkw := khv3 _ _ (fun q => by have z9 := fkw; rw [q] at z9; have := z9.symm.trans hY; first | cases this | simp at this) fkw
              replace fvw := khv3 _ _ (fun q => by have z9 := fvw; rw [q] at z9; have := z9.symm.trans hY; first | cases this | simp at this) fvw
              replace hY : hv3 y = some (.inr (8, [.ref ms, .ref mb, .ref (ra 28), .int gr, .int 0, .int ca, .int (nI m0), .ref od, .ref pt, .int ct, .int fau, .ref fi, .ref re, .int cs, .ref rc, .ref rs, .ref so, .ref ot, .ref cn, .ref la, .int ce, .ref ro, .int rn])) := by rw [ehv3]; exact qs_self
              clear ehv3
              replace fr := fun b o hb n1 n2 => khv3 b o n1 (fr b o hb n1 n2)
              refine lv_if_eq (tgt := 52) hx hb dX8_map_34 (by decide) (fun c34 => ?_) (fun c34 => ?_)
              · replace c34 : 1 = 0 := (nI_eq (a := 1) (b := 0) (by omega) (by omega)).mp c34
                exfalso; omega
              · replace c34 : ¬ 1 = 0 := fun zq => c34 ((nI_eq (a := 1) (b := 0) (by omega) (by omega)).mpr zq)
                refine lv_aload_n hx hb dX8_map_37 rfl (lv_at hl 0 rfl) ?_
                refine lv_aload_n hx hb dX8_map_38 rfl (lv_at hl 0 rfl) ?_
                refine lv_iload_n hx hb dX8_map_39 rfl (lv_at hl 2 rfl) ?_
                refine lv_bipush (v := nI 65) hx hb dX8_map_40 (by decide) ?_
                obtain ⟨nj, rwj, Fj, Gj, hRj, hnj, hLj, hKj⟩ := hrs j (by omega)
                have apj := hRj.apart hRw (hmd.two (i := j) (j := 28) (by omega) (by omega) (by omega))
                replace hRj := hRj.keep2 (fun b o hb ho => fr b o ho (hRj.ney hY0 hb) (hb.elim (fun q => q ▸ apj.1) (fun hb => hb.elim (fun q => q ▸ apj.2.1) (fun q => q ▸ apj.2.2))))
                have faj := hRj.2.2.2.1
                have fkj := hRj.2.2.2.2.1
                have fvj := hRj.2.2.2.2.2
                unfold qRb at faj
                unfold qJr at fkj fvj
                refine q_callV (rest := [.ref y]) C (c_X8_holds l D cy N0 hv3 y ms ra rk rv j 65 _ _ _ _ _ _ _ _ hY rfl hms ⟨hRj.1, hRj.2.1, hRj.2.2.1, faj, fkj, fvj⟩ (by omega)) kX8_holds g1264 g1266 rfl gp42 g4 hP hS hY (by first | decide | omega) hl.1 rfl (by simp [q_catrf, q_cati, q_catl, q_cata, q_catn]) (by first | decide | omega) dX8_map_42 (fun q ce E h' H1 locs1 hE => hE.elim) (fun v hh6 H locs hq hP hS => ?_)
                obtain ⟨rfl, rfl⟩ := hq
                cases hoj : bHo (S j).1 65 with
                | false =>
                  refine lv_iconst (v := nI 2) hx hb dX8_map_45 (by decide) ?_
                  refine q_callV (rest := []) C (c_X8_good0 l D cy N0 hv3 y ms mb (ra 28) od pt fi re rc rs so ot cn la ro gr 0 ca (nI m0) ct fau cs ce rn (nI 2) hY) kX8_good g1249 g1251 rfl gp41 g4 hP hS hY (by first | decide | omega) hl.1 rfl (by decide) (by first | decide | omega) dX8_map_46 (fun q ce E h' H1 locs1 hE => hE.elim) (fun v hh7 H locs hq hP hS => ?_)
                  obtain ⟨rfl, rfl⟩ := hq
                  replace hP : qP D N0 (qs hv3 y (.inr (8, [.ref ms, .ref mb, .ref (ra 28), .int gr, .int (nI 2), .int ca, .int (nI m0), .ref od, .ref pt, .int ct, .int fau, .ref fi, .ref re, .int cs, .ref rc, .ref rs, .ref so, .ref ot, .ref cn, .ref la, .int ce, .ref ro, .int rn]))) H := hP
                  obtain ⟨hv4, ehv4⟩ : ∃ z : qH, z = qs hv3 y (.inr (8, [.ref ms, .ref mb, .ref (ra 28), .int gr, .int (nI 2), .int ca, .int (nI m0), .ref od, .ref pt, .int ct, .int fau, .ref fi, .ref re, .int cs, .ref rc, .ref rs, .ref so, .ref ot, .ref cn, .ref la, .int ce, .ref ro, .int rn])) := ⟨_, rfl⟩
                  rw [← ehv4] at hP
                  have khv4 : ∀ b o, b ≠ y → hv3 b = some o → hv4 b = some o := by rw [ehv4]; exact fun b o nb hb => (qs_ne nb).trans hb
                  replace hms := khv4 _ _ (fun q => by subst q; have := hms.symm.trans hY; first | cases this | simp at this) hms
                  replace hmb := khv4 _ _ (fun q => by subst q; have := hmb.symm.trans hY; first | cases this | simp at this) hmb
                  replace faw := khv4 _ _ (fun q => by have z9 := faw; rw [q] at z9; have := z9.symm.trans hY; first | cases this | simp at this) faw
                  replace fkw := khv4 _ _ (fun q => by have z9 := fkw; rw [q] at z9; have := z9.symm.trans hY; first | cases this | simp at this) fkw
                  replace fvw := khv4 _ _ (fun q => by have z9 := fvw; rw [q] at z9; have := z9.symm.trans hY; first | cases this | simp at this) fvw
                  replace faj := khv4 _ _ (fun q => by have z9 := faj; rw [q] at z9; have := z9.symm.trans hY; first | cases this | simp at this) faj
                  replace fkj := khv4 _ _ (fun q => by have z9 := fkj; rw [q] at z9; have := z9.symm.trans hY; first | cases this | simp at this) fkj
                  replace fvj := khv4 _ _ (fun q => by have z9 := fvj; rw [q] at z9; have := z9.symm.trans hY; first | cases this | simp at this) fvj
                  replace hY : hv4 y = some (.inr (8, [.ref ms, .ref mb, .ref (ra 28), .int gr, .int (nI 2), .int ca, .int (nI m0), .ref od, .ref pt, .int ct, .int fau, .ref fi, .ref re, .int cs, .ref rc, .ref rs, .ref so, .ref ot, .ref cn, .ref la, .int ce, .ref ro, .int rn])) := by rw [ehv4]; exact qs_self
                  clear ehv4
                  replace fr := fun b o hb n1 n2 => khv4 b o n1 (fr b o hb n1 n2)
                  refine lv_if_ne (tgt := 53) hx hb dX8_map_49 (by decide) (fun c49 => ?_) (fun c49 => ?_)
                  · replace c49 : ¬ 0 = 0 := fun zq => c49 ((nI_eq (a := 0) (b := 0) (by omega) (by omega)).mpr zq)
                    exfalso; omega
                  · replace c49 : 0 = 0 := (nI_eq (a := 0) (b := 0) (by omega) (by omega)).mp c49
                    have eX : X = (2, S, (ms, mb, ra 28, od, pt, ro, gr, cd, ca, nI m0, ct, fau, rn), a, k) := by rw [← hX]; unfold xs_map; rw [if_neg (by rw [ebi, ebj, ecq]; exact fun z => z.elim (fun z => by cases z) (fun z => z.elim (fun z => by cases z) (fun z => z.elim c16 (fun z => by omega)))), ecj, if_pos hoj]
                    obtain ⟨m8, f8⟩ := hM.fin0 hY0 (h' := hv4) ⟨hRw.1, hRw.2.1, hRw.2.2.1, faw, fkw, fvw⟩ fr
                    obtain ⟨q8, r8⟩ := hQ.rowM (o' := oCd (ms, mb, ra 28, od, pt, ro, gr, cd, ca, nI m0, ct, fau, rn) 2) hY0 hY m8 f8 ⟨rfl, rfl, rfl, rfl, rfl, rfl⟩
                    exact q_vret C hP hS ⟨rfl, A, by rw [eX]; exact q8, r8⟩ (by omega) dX8_map_52
                | true =>
                  refine lv_iconst (v := nI 2) hx hb dX8_map_45 (by decide) ?_
                  refine q_callV (rest := []) C (c_X8_good1 l D cy N0 hv3 y ms mb (ra 28) od pt fi re rc rs so ot cn la ro gr 0 ca (nI m0) ct fau cs ce rn (nI 2) hY) kX8_good g1249 g1251 rfl gp41 g4 hP hS hY (by first | decide | omega) hl.1 rfl (by decide) (by first | decide | omega) dX8_map_46 (fun q ce E h' H1 locs1 hE => hE.elim) (fun v hh8 H locs hq hP hS => ?_)
                  obtain ⟨rfl, rfl⟩ := hq
                  replace hP : qP D N0 (qs hv3 y (.inr (8, [.ref ms, .ref mb, .ref (ra 28), .int gr, .int 0, .int ca, .int (nI m0), .ref od, .ref pt, .int ct, .int fau, .ref fi, .ref re, .int cs, .ref rc, .ref rs, .ref so, .ref ot, .ref cn, .ref la, .int ce, .ref ro, .int rn]))) H := hP
                  obtain ⟨hv5, ehv5⟩ : ∃ z : qH, z = qs hv3 y (.inr (8, [.ref ms, .ref mb, .ref (ra 28), .int gr, .int 0, .int ca, .int (nI m0), .ref od, .ref pt, .int ct, .int fau, .ref fi, .ref re, .int cs, .ref rc, .ref rs, .ref so, .ref ot, .ref cn, .ref la, .int ce, .ref ro, .int rn])) := ⟨_, rfl⟩
                  rw [← ehv5] at hP
                  have khv5 : ∀ b o, b ≠ y → hv3 b = some o → hv5 b = some o := by rw [ehv5]; exact fun b o nb hb => (qs_ne nb).trans hb
                  replace hms := khv5 _ _ (fun q => by subst q; have := hms.symm.trans hY; first | cases this | simp at this) hms
                  replace hmb := khv5 _ _ (fun q => by subst q; have := hmb.symm.trans hY; first | cases this | simp at this) hmb
                  replace faw := khv5 _ _ (fun q => by have z9 := faw; rw [q] at z9; have := z9.symm.trans hY; first | cases this | simp at this) faw
                  replace fkw := khv5 _ _ (fun q => by have z9 := fkw; rw [q] at z9; have := z9.symm.trans hY; first | cases this | simp at this) fkw
                  replace fvw := khv5 _ _ (fun q => by have z9 := fvw; rw [q] at z9; have := z9.symm.trans hY; first | cases this | simp at this) fvw
                  replace faj := khv5 _ _ (fun q => by have z9 := faj; rw [q] at z9; have := z9.symm.trans hY; first | cases this | simp at this) faj
                  replace fkj := khv5 _ _ (fun q => by have z9 := fkj; rw [q] at z9; have := z9.symm.trans hY; first | cases this | simp at this) fkj
                  replace fvj := khv5 _ _ (fun q => by have z9 := fvj; rw [q] at z9; have := z9.symm.trans hY; first | cases this | simp at this) fvj
                  replace hY : hv5 y = some (.inr (8, [.ref ms, .ref mb, .ref (ra 28), .int gr, .int 0, .int ca, .int (nI m0), .ref od, .ref pt, .int ct, .int fau, .ref fi, .ref re, .int cs, .ref rc, .ref rs, .ref so, .ref ot, .ref cn, .ref la, .int ce, .ref ro, .int rn])) := by rw [ehv5]; exact qs_self
                  clear ehv5
                  replace fr := fun b o hb n1 n2 => khv5 b o n1 (fr b o hb n1 n2)
                  refine lv_if_ne (tgt := 53) hx hb dX8_map_49 (by decide) (fun c49 => ?_) (fun c49 => ?_)
                  · replace c49 : ¬ 1 = 0 := fun zq => c49 ((nI_eq (a := 1) (b := 0) (by omega) (by omega)).mpr zq)
                    refine lv_aload_n hx hb dX8_map_53 rfl (lv_at hl 0 rfl) ?_
                    refine q_get C hP hY rfl inX8 0 (by decide) g1167 rfl dX8_map_54 ?_
                    refine lv_iload_n hx hb dX8_map_57 rfl (lv_at hl 2 rfl) ?_
                    refine q_aaldR C hP hms rfl (by omega) (by omega) rfl dX8_map_58 ?_
                    refine lv_astore (lv' := [(6, .ref (ra j)), (0, .ref y), (1, .int (nI i)), (2, .int (nI j)), (3, .int (nI q)), (4, .long p3)]) hx hb dX8_map_59 hl (by decide) rfl (fun ls hl => ?_)
                    refine lv_aload hx hb dX8_map_61 (lv_at hl 0 rfl) ?_
                    refine lv_aload_n hx hb dX8_map_63 rfl (lv_at hl 1 rfl) ?_
                    refine q_get C hP hY rfl inX8 2 (by decide) g1169 rfl dX8_map_64 ?_
                    refine q_callS (rest := []) C (c_X8_copy l D cy N0 hv5 (ra j) (rk j) (rv j) (S j).1 (nI (S j).2.2.1) (nI (S j).2.2.2) rwj nj Fj Gj (ra 28) (rk 28) (rv 28) kdw smw dpw rww nw fw gw ⟨hRj.1, hRj.2.1, hRj.2.2.1, faj, fkj, fvj⟩ ⟨hRw.1, hRw.2.1, hRw.2.2.1, faw, fkw, fvw⟩ apj (by omega)) kX8_copy g1257 g1258 hP hS (by first | decide | omega) hl.1 rfl (by decide) (by first | decide | omega) dX8_map_67 (fun q ce E h' H1 locs1 hE => hE.elim) (fun v hh9 H locs hq hP hS => ?_)
                    obtain ⟨rfl, rfl⟩ := hq
                    obtain ⟨hv6, ehv6⟩ : ∃ z : qH, z = qRh cy hv5 (ra 28) (rk 28) (rv 28) ((S j).1) (nI nj) (nI (S j).2.2.1) (nI (S j).2.2.2) rwj (qCp Fj fw nj) (qCp Gj gw nj) := ⟨_, rfl⟩
                    rw [← ehv6] at hP
                    have r9 : qRw cy hv6 (ra 28) (rk 28) (rv 28) ((S j).1) (nI nj) (nI (S j).2.2.1) (nI (S j).2.2.2) rwj (qCp Fj fw nj) (qCp Gj gw nj) := by rw [ehv6]; exact qRw.new (cy := cy) (h := hv5) (kd := kdw) (n := (nI nw)) (sm := smw) (dp := dpw) (rw := rww) (f := fw) (g := gw) ⟨hRw.1, hRw.2.1, hRw.2.2.1, faw, fkw, fvw⟩
                    have khv6 : ∀ b o, qOf (ra 28) (rk 28) (rv 28) b → hv5 b = some o → hv6 b = some o := by rw [ehv6]; exact fun b o q hb => (qRh_o q.1 q.2.1 q.2.2).trans hb
                    replace hY := khv6 _ _ ⟨fun q => by rw [q] at hY; have := faw.symm.trans hY; first | cases this | simp at this, fun q => by rw [q] at hY; have := fkw.symm.trans hY; first | cases this | simp at this, fun q => by rw [q] at hY; have := fvw.symm.trans hY; first | cases this | simp at this⟩ hY
                    replace hms := khv6 _ _ ⟨fun q => by rw [q] at hms; have := faw.symm.trans hms; first | cases this | simp at this, fun q => by rw [q] at hms; have := fkw.symm.trans hms; first | cases this | simp at this, fun q => by rw [q] at hms; have := fvw.symm.trans hms; first | cases this | simp at this⟩ hms
                    replace hmb := khv6 _ _ ⟨fun q => by rw [q] at hmb; have := faw.symm.trans hmb; first | cases this | simp at this, fun q => by rw [q] at hmb; have := fkw.symm.trans hmb; first | cases this | simp at this, fun q => by rw [q] at hmb; have := fvw.symm.trans hmb; first | cases this | simp at this⟩ hmb
                    replace faj := khv6 _ _ apj.1 faj
                    replace fkj := khv6 _ _ apj.2.1 fkj
                    replace fvj := khv6 _ _ apj.2.2 fvj
                    replace fr := fun b o hb n1 n2 => khv6 b o n2 (fr b o hb n1 n2)
                    clear faw fkw fvw
                    have faw := r9.2.2.2.1
                    have fkw := r9.2.2.2.2.1
                    have fvw := r9.2.2.2.2.2
                    unfold qRb at faw
                    unfold qJr at fkw fvw
                    clear r9 ehv6
                    have lw : qLs ((S j).1) (qCp Fj fw nj) (qCp Gj gw nj) nj = (S j).2.1 := by rw [qLs_cp]; exact hLj.symm
                    refine lv_aload_n hx hb dX8_map_70 rfl (lv_at hl 1 rfl) ?_
                    refine lv_iconst (v := nI 0) hx hb dX8_map_71 (by decide) ?_
                    refine q_put C hP hS hY rfl inX8 tyX8 tyX8_ok nmX8 10 (by decide) g1177 rfl rfl rfl (Nat.le_of_ble_eq_true rfl) dX8_map_72 (fun H locs hP hS => ?_)
                    replace hP : qP D N0 (qs hv6 y (.inr (8, [.ref ms, .ref mb, .ref (ra 28), .int gr, .int 0, .int ca, .int (nI m0), .ref od, .ref pt, .int ct, .int (nI 0), .ref fi, .ref re, .int cs, .ref rc, .ref rs, .ref so, .ref ot, .ref cn, .ref la, .int ce, .ref ro, .int rn]))) H := hP
                    obtain ⟨hv7, ehv7⟩ : ∃ z : qH, z = qs hv6 y (.inr (8, [.ref ms, .ref mb, .ref (ra 28), .int gr, .int 0, .int ca, .int (nI m0), .ref od, .ref pt, .int ct, .int (nI 0), .ref fi, .ref re, .int cs, .ref rc, .ref rs, .ref so, .ref ot, .ref cn, .ref la, .int ce, .ref ro, .int rn])) := ⟨_, rfl⟩
                    rw [← ehv7] at hP
                    have khv7 : ∀ b o, b ≠ y → hv6 b = some o → hv7 b = some o := by rw [ehv7]; exact fun b o nb hb => (qs_ne nb).trans hb
                    replace hms := khv7 _ _ (fun q => by subst q; have := hms.symm.trans hY; first | cases this | simp at this) hms
                    replace hmb := khv7 _ _ (fun q => by subst q; have := hmb.symm.trans hY; first | cases this | simp at this) hmb
                    replace faw := khv7 _ _ (fun q => by have z9 := faw; rw [q] at z9; have := z9.symm.trans hY; first | cases this | simp at this) faw
                    replace fkw := khv7 _ _ (fun q => by have z9 := fkw; rw [q] at z9; have := z9.symm.trans hY; first | cases this | simp at this) fkw
                    replace fvw := khv7 _ _ (fun q => by have z9 := fvw; rw [q] at z9; have := z9.symm.trans hY; first | cases this | simp at this) fvw
                    replace faj := khv7 _ _ (fun q => by have z9 := faj; rw [q] at z9; have := z9.symm.trans hY; first | cases this | simp at this) faj
                    replace fkj := khv7 _ _ (fun q => by have z9 := fkj; rw [q] at z9; have := z9.symm.trans hY; first | cases this | simp at this) fkj
                    replace fvj := khv7 _ _ (fun q => by have z9 := fvj; rw [q] at z9; have := z9.symm.trans hY; first | cases this | simp at this) fvj
                    replace hY : hv7 y = some (.inr (8, [.ref ms, .ref mb, .ref (ra 28), .int gr, .int 0, .int ca, .int (nI m0), .ref od, .ref pt, .int ct, .int (nI 0), .ref fi, .ref re, .int cs, .ref rc, .ref rs, .ref so, .ref ot, .ref cn, .ref la, .int ce, .ref ro, .int rn])) := by rw [ehv7]; exact qs_self
                    clear ehv7
                    replace fr := fun b o hb n1 n2 => khv7 b o n1 (fr b o hb n1 n2)
                    refine lv_aload hx hb dX8_map_75 (lv_at hl 0 rfl) ?_
                    refine q_get C hP faj rfl inX7 2 (by decide) g1142 rfl dX8_map_77 ?_
                    refine lv_bipush (v := 6) hx hb dX8_map_80 (by decide) ?_
                    refine lv_icmp_ne (tgt := 121) hx hb dX8_map_82 (by decide) (fun c82 => ?_) (fun c82 => ?_)
                    · refine lv_iconst (v := nI 0) hx hb dX8_map_121 (by decide) ?_
                      refine lv_istore (lv' := [(7, .int (nI 0)), (6, .ref (ra j)), (0, .ref y), (1, .int (nI i)), (2, .int (nI j)), (3, .int (nI q)), (4, .long p3)]) hx hb dX8_map_122 hl (by decide) rfl (fun ls hl => ?_)
                      have ek0 : (S j).1 = 0 := bHo_65 (hI j (by omega)).2.2 hoj c82
                      have hlen : (S j).2.1.length = nj := by rw [hLj, qLs_len]
                      refine (?_ : ∀ (t : Nat) (H : Heap) (locs : List Loc) (ls : Array Slot) (hv0 : qH) (fW : Nat → Int64) (ii : Nat) (zf : Int32), nj - ii < t → hv0 y = some (.inr (8, [.ref ms, .ref mb, .ref (ra 28), .int gr, .int 0, .int ca, .int (nI m0), .ref od, .ref pt, .int ct, .int zf, .ref fi, .ref re, .int cs, .ref rc, .ref rs, .ref so, .ref ot, .ref cn, .ref la, .int ce, .ref ro, .int rn])) → hv0 ms = some (.inl (cy 5, 24, .inr (.inr (.inr (.inr (fun i => some (ra i))))))) → hv0 mb = some (.inl (cy 5, 4, .inr (.inr (.inr (.inr (fun i => some (ra (24 + i)))))))) → hv0 (ra 28) = some (.inr (7, [.ref (rk 28), .ref (rv 28), .int (S j).1, .int (nI nj), .int (nI (S j).2.2.1), .int (nI (S j).2.2.2), .int rwj])) → hv0 (rk 28) = some (.inl (cy 1, 1001, .inr (.inl fW))) → hv0 (rv 28) = some (.inl (cy 1, 1001, .inr (.inl (qCp Gj gw nj)))) → hv0 (ra j) = some (.inr (7, [.ref (rk j), .ref (rv j), .int (S j).1, .int (nI nj), .int (nI (S j).2.2.1), .int (nI (S j).2.2.2), .int rwj])) → hv0 (rk j) = some (.inl (cy 1, 1001, .inr (.inl Fj))) → hv0 (rv j) = some (.inl (cy 1, 1001, .inr (.inl Gj))) → (∀ b o, h b = some o → b ≠ y → qOf (ra 28) (rk 28) (rv 28) b → hv0 b = some o) → (∀ q9, q9 < ii → fW q9 = (xFn q p3 (Fj q9)).getD 0) → ((zf = nI 0 ∧ ∀ q9, q9 < ii → ¬ xFn q p3 (Fj q9) = none) ∨ (zf = nI 1 ∧ ∃ q9, q9 < ii ∧ xFn q p3 (Fj q9) = none)) → ii ≤ nj → lv_has ls 8 [(7, .int (nI ii)), (6, .ref (ra j)), (4, .long p3), (3, .int (nI q)), (0, .ref y), (1, .int (nI i))] → qP D N0 hv0 H → va_S (qA N0) s.heap H locs → W p l e _ s m _ below meth c H locs 0 0 _ (F0 m 124 ls [])) _ H locs ls hv7 (qCp Fj fw nj) 0 (nI 0) (Nat.lt_succ_self _) hY hms hmb faw fkw fvw faj fkj fvj fr (fun q9 z => absurd z (Nat.not_lt_zero _)) (Or.inl ⟨rfl, fun q9 z => absurd z (Nat.not_lt_zero _)⟩) (Nat.zero_le _) (lv_sub hl [0, 1, 6, 5, 2, 3] rfl) hP hS
                      clear hl hP hS
                      intro t
                      induction t with
                      | zero => intro H locs ls hv0 fW ii zf ht; exact absurd ht (Nat.not_lt_zero _)
                      | succ t ihl =>
                        intro H locs ls hv0 fW ii zf ht hY hms hmb faw fkw fvw faj fkj fvj fr hfW hzf hii hl hP hS
                        refine lv_iload hx hb dX8_map_124 (lv_at hl 0 rfl) ?_
                        refine lv_aload hx hb dX8_map_126 (lv_at hl 1 rfl) ?_
                        refine q_get C hP faj rfl inX7 3 (by decide) g1143 rfl dX8_map_128 ?_
                        refine lv_icmp_ge (tgt := 165) hx hb dX8_map_131 (by decide) (fun c131 => ?_) (fun c131 => ?_)
                        · replace c131 : nj ≤ ii := (nI_leI (a := nj) (b := ii) (by omega) (by omega)).mp c131
                          have eii : ii = nj := by omega
                          replace lw : qLs ((S j).1) fW (qCp Gj gw nj) nj = xMpL q p3 (S j).2.1 := by rw [hLj]; exact xMpL_row (fun q9 hq => hfW q9 (by omega)) (fun q9 hq => if_pos hq)
                          rcases hzf with ⟨rfl, hzf⟩ | ⟨rfl, hzf⟩
                          · have hno : ¬ xNo q p3 (S j).2.1 = true := by rw [hLj, xNo_row, ← eii]; exact fun ⟨q9, hq, e⟩ => hzf q9 hq e
                            refine lv_aload_n hx hb dX8_map_165 rfl (lv_at hl 4 rfl) ?_
                            refine lv_aload_n hx hb dX8_map_166 rfl (lv_at hl 4 rfl) ?_
                            refine q_get C hP hY rfl inX8 10 (by decide) g1177 rfl dX8_map_167 ?_
                            refine lv_iconst (v := nI 1) hx hb dX8_map_170 (by decide) ?_
                            refine lv_icmp_eq (tgt := 178) hx hb dX8_map_171 (by decide) (fun c171 => ?_) (fun c171 => ?_)
                            · replace c171 : 0 = 1 := (nI_eq (a := 0) (b := 1) (by omega) (by omega)).mp c171
                              exfalso; omega
                            · replace c171 : ¬ 0 = 1 := fun zq => c171 ((nI_eq (a := 0) (b := 1) (by omega) (by omega)).mpr zq)
                              refine lv_iconst (v := nI 1) hx hb dX8_map_174 (by decide) ?_
                              refine lv_goto (tgt := 179) hx hb dX8_map_175 (by decide) ?_
                              refine lv_iconst (v := nI 3) hx hb dX8_map_179 (by decide) ?_
                              refine q_callV (rest := []) C (c_X8_good1 l D cy N0 hv0 y ms mb (ra 28) od pt fi re rc rs so ot cn la ro gr 0 ca (nI m0) ct (nI 0) cs ce rn (nI 3) hY) kX8_good g1249 g1251 rfl gp41 g4 hP hS hY (by first | decide | omega) hl.1 rfl (by decide) (by first | decide | omega) dX8_map_180 (fun q ce E h' H1 locs1 hE => hE.elim) (fun v hh10 H locs hq hP hS => ?_)
                              obtain ⟨rfl, rfl⟩ := hq
                              replace hP : qP D N0 (qs hv0 y (.inr (8, [.ref ms, .ref mb, .ref (ra 28), .int gr, .int 0, .int ca, .int (nI m0), .ref od, .ref pt, .int ct, .int (nI 0), .ref fi, .ref re, .int cs, .ref rc, .ref rs, .ref so, .ref ot, .ref cn, .ref la, .int ce, .ref ro, .int rn]))) H := hP
                              obtain ⟨hv8, ehv8⟩ : ∃ z : qH, z = qs hv0 y (.inr (8, [.ref ms, .ref mb, .ref (ra 28), .int gr, .int 0, .int ca, .int (nI m0), .ref od, .ref pt, .int ct, .int (nI 0), .ref fi, .ref re, .int cs, .ref rc, .ref rs, .ref so, .ref ot, .ref cn, .ref la, .int ce, .ref ro, .int rn])) := ⟨_, rfl⟩
                              rw [← ehv8] at hP
                              have khv8 : ∀ b o, b ≠ y → hv0 b = some o → hv8 b = some o := by rw [ehv8]; exact fun b o nb hb => (qs_ne nb).trans hb
                              replace hms := khv8 _ _ (fun q => by subst q; have := hms.symm.trans hY; first | cases this | simp at this) hms
                              replace hmb := khv8 _ _ (fun q => by subst q; have := hmb.symm.trans hY; first | cases this | simp at this) hmb
                              replace faw := khv8 _ _ (fun q => by have z9 := faw; rw [q] at z9; have := z9.symm.trans hY; first | cases this | simp at this) faw
                              replace fkw := khv8 _ _ (fun q => by have z9 := fkw; rw [q] at z9; have := z9.symm.trans hY; first | cases this | simp at this) fkw
                              replace fvw := khv8 _ _ (fun q => by have z9 := fvw; rw [q] at z9; have := z9.symm.trans hY; first | cases this | simp at this) fvw
                              replace faj := khv8 _ _ (fun q => by have z9 := faj; rw [q] at z9; have := z9.symm.trans hY; first | cases this | simp at this) faj
                              replace fkj := khv8 _ _ (fun q => by have z9 := fkj; rw [q] at z9; have := z9.symm.trans hY; first | cases this | simp at this) fkj
                              replace fvj := khv8 _ _ (fun q => by have z9 := fvj; rw [q] at z9; have := z9.symm.trans hY; first | cases this | simp at this) fvj
                              replace hY : hv8 y = some (.inr (8, [.ref ms, .ref mb, .ref (ra 28), .int gr, .int 0, .int ca, .int (nI m0), .ref od, .ref pt, .int ct, .int (nI 0), .ref fi, .ref re, .int cs, .ref rc, .ref rs, .ref so, .ref ot, .ref cn, .ref la, .int ce, .ref ro, .int rn])) := by rw [ehv8]; exact qs_self
                              clear ehv8
                              replace fr := fun b o hb n1 n2 => khv8 b o n1 (fr b o hb n1 n2)
                              refine lv_if_eq (tgt := 241) hx hb dX8_map_183 (by decide) (fun c183 => ?_) (fun c183 => ?_)
                              · replace c183 : 1 = 0 := (nI_eq (a := 1) (b := 0) (by omega) (by omega)).mp c183
                                exfalso; omega
                              · replace c183 : ¬ 1 = 0 := fun zq => c183 ((nI_eq (a := 1) (b := 0) (by omega) (by omega)).mpr zq)
                                refine lv_aload_n hx hb dX8_map_186 rfl (lv_at hl 4 rfl) ?_
                                refine lv_aload hx hb dX8_map_187 (lv_at hl 1 rfl) ?_
                                refine q_get C hP faj rfl inX7 2 (by decide) g1142 rfl dX8_map_189 ?_
                                refine lv_bipush (v := 6) hx hb dX8_map_192 (by decide) ?_
                                refine lv_icmp_ne (tgt := 224) hx hb dX8_map_194 (by decide) (fun _ => ?_) (fun c => absurd c c82)
                                refine lv_aload_n hx hb dX8_map_224 rfl (lv_at hl 4 rfl) ?_
                                refine lv_iconst (v := nI 0) hx hb dX8_map_225 (by decide) ?_
                                refine lv_aload hx hb dX8_map_226 (lv_at hl 1 rfl) ?_
                                refine q_get C hP faj rfl inX7 3 (by decide) g1143 rfl dX8_map_228 ?_
                                refine q_callV (rest := [.ref y]) C (c_X8_fits l D cy N0 hv8 y m0 0 nj _ hY rfl (by omega) (by omega)) kX8_fits g1413 g1415 rfl gp61 g4 hP hS hY (by first | decide | omega) hl.1 rfl (by simp [q_catrf, q_cati, q_catl, q_cata, q_catn]) (by first | decide | omega) dX8_map_231 (fun q ce E h' H1 locs1 hE => hE.elim) (fun v hh11 H locs hq hP hS => ?_)
                                obtain ⟨rfl, rfl⟩ := hq
                                by_cases cf : 0 ≤ 1000 ∧ m0 + nj ≤ 20000
                                · rw [if_pos cf]
                                  refine lv_iconst (v := nI 4) hx hb dX8_map_234 (by decide) ?_
                                  refine q_callV (rest := []) C (c_X8_good1 l D cy N0 hv8 y ms mb (ra 28) od pt fi re rc rs so ot cn la ro gr 0 ca (nI m0) ct (nI 0) cs ce rn (nI 4) hY) kX8_good g1249 g1251 rfl gp41 g4 hP hS hY (by first | decide | omega) hl.1 rfl (by decide) (by first | decide | omega) dX8_map_235 (fun q ce E h' H1 locs1 hE => hE.elim) (fun v hh12 H locs hq hP hS => ?_)
                                  obtain ⟨rfl, rfl⟩ := hq
                                  replace hP : qP D N0 (qs hv8 y (.inr (8, [.ref ms, .ref mb, .ref (ra 28), .int gr, .int 0, .int ca, .int (nI m0), .ref od, .ref pt, .int ct, .int (nI 0), .ref fi, .ref re, .int cs, .ref rc, .ref rs, .ref so, .ref ot, .ref cn, .ref la, .int ce, .ref ro, .int rn]))) H := hP
                                  obtain ⟨hv9, ehv9⟩ : ∃ z : qH, z = qs hv8 y (.inr (8, [.ref ms, .ref mb, .ref (ra 28), .int gr, .int 0, .int ca, .int (nI m0), .ref od, .ref pt, .int ct, .int (nI 0), .ref fi, .ref re, .int cs, .ref rc, .ref rs, .ref so, .ref ot, .ref cn, .ref la, .int ce, .ref ro, .int rn])) := ⟨_, rfl⟩
                                  rw [← ehv9] at hP
                                  have khv9 : ∀ b o, b ≠ y → hv8 b = some o → hv9 b = some o := by rw [ehv9]; exact fun b o nb hb => (qs_ne nb).trans hb
                                  replace hms := khv9 _ _ (fun q => by subst q; have := hms.symm.trans hY; first | cases this | simp at this) hms
                                  replace hmb := khv9 _ _ (fun q => by subst q; have := hmb.symm.trans hY; first | cases this | simp at this) hmb
                                  replace faw := khv9 _ _ (fun q => by have z9 := faw; rw [q] at z9; have := z9.symm.trans hY; first | cases this | simp at this) faw
                                  replace fkw := khv9 _ _ (fun q => by have z9 := fkw; rw [q] at z9; have := z9.symm.trans hY; first | cases this | simp at this) fkw
                                  replace fvw := khv9 _ _ (fun q => by have z9 := fvw; rw [q] at z9; have := z9.symm.trans hY; first | cases this | simp at this) fvw
                                  replace faj := khv9 _ _ (fun q => by have z9 := faj; rw [q] at z9; have := z9.symm.trans hY; first | cases this | simp at this) faj
                                  replace fkj := khv9 _ _ (fun q => by have z9 := fkj; rw [q] at z9; have := z9.symm.trans hY; first | cases this | simp at this) fkj
                                  replace fvj := khv9 _ _ (fun q => by have z9 := fvj; rw [q] at z9; have := z9.symm.trans hY; first | cases this | simp at this) fvj
                                  replace hY : hv9 y = some (.inr (8, [.ref ms, .ref mb, .ref (ra 28), .int gr, .int 0, .int ca, .int (nI m0), .ref od, .ref pt, .int ct, .int (nI 0), .ref fi, .ref re, .int cs, .ref rc, .ref rs, .ref so, .ref ot, .ref cn, .ref la, .int ce, .ref ro, .int rn])) := by rw [ehv9]; exact qs_self
                                  clear ehv9
                                  replace fr := fun b o hb n1 n2 => khv9 b o n1 (fr b o hb n1 n2)
                                  refine lv_if_ne (tgt := 242) hx hb dX8_map_238 (by decide) (fun c238 => ?_) (fun c238 => ?_)
                                  · replace c238 : ¬ 1 = 0 := fun zq => c238 ((nI_eq (a := 1) (b := 0) (by omega) (by omega)).mpr zq)
                                    refine lv_aload_n hx hb dX8_map_242 rfl (lv_at hl 4 rfl) ?_
                                    refine lv_iload_n hx hb dX8_map_243 rfl (lv_at hl 5 rfl) ?_
                                    refine lv_aload hx hb dX8_map_244 (lv_at hl 1 rfl) ?_
                                    refine q_get C hP faj rfl inX7 2 (by decide) g1142 rfl dX8_map_246 ?_
                                    refine lv_bipush (v := 6) hx hb dX8_map_249 (by decide) ?_
                                    refine lv_icmp_ne (tgt := 258) hx hb dX8_map_251 (by decide) (fun _ => ?_) (fun c => absurd c c82)
                                    refine lv_aload hx hb dX8_map_258 (lv_at hl 1 rfl) ?_
                                    refine q_get C hP faj rfl inX7 3 (by decide) g1143 rfl dX8_map_260 ?_
                                    obtain ⟨ni, rwi, Fi, Gi, hRi, hni, hLi, hKi⟩ := hrs i (by omega)
                                    have api := hRi.apart hRw (hmd.two (i := i) (j := 28) (by omega) (by omega) (by omega))
                                    replace hRi := hRi.keep2 (fun b o hb ho => fr b o ho (hRi.ney hY0 hb) (hb.elim (fun q => q ▸ api.1) (fun hb => hb.elim (fun q => q ▸ api.2.1) (fun q => q ▸ api.2.2))))
                                    have fai := hRi.2.2.2.1
                                    have fki := hRi.2.2.2.2.1
                                    have fvi := hRi.2.2.2.2.2
                                    unfold qRb at fai
                                    unfold qJr at fki fvi
                                    refine q_callV (rest := []) C (c_X8_done l D cy N0 hv9 y ms mb od pt fi re rc rs so ot cn la ro gr 0 ca (nI m0) ct (nI 0) cs ce rn ra rk rv i (nI nj) (S j).1 (nI (S j).2.2.1) (nI (S j).2.2.2) rwj nj fW (qCp Gj gw nj) (S i).1 (nI (S i).2.2.1) (nI (S i).2.2.2) rwi ni Fi Gi hY hms hmd ⟨hRw.1, hRw.2.1, hRw.2.2.1, faw, fkw, fvw⟩ ⟨hRi.1, hRi.2.1, hRi.2.2.1, fai, fki, fvi⟩ (by omega) (by omega)) kX8_done g1293 g1295 rfl gp45 g4 hP hS hY (by first | decide | omega) hl.1 rfl (by decide) (by first | decide | omega) dX8_map_263 (fun q ce E h' H1 locs1 hE => hE.elim) (fun v hh13 H locs hq hP hS => ?_)
                                    obtain ⟨rfl, hY9, hw9, hi9, fr9⟩ := hq
                                    replace fr := fun b o hb n1 n2 n3 => fr9 b o (fr b o hb n1 n2) n1 n2 n3
                                    rw [nI_add] at hY9
                                    refine lv_pop hx hb dX8_map_266 rfl ?_
                                    obtain ⟨m9, f9⟩ := hM.fin hY0 (i := i) (by omega) (s := ((S j).1, (xMpL q p3 (S j).2.1), (S j).2.2.1, (S j).2.2.2)) ⟨nj, _, _, _, hi9, by omega, by rw [qLs_cp]; exact lw.symm, Or.inl rfl⟩ hw9 fr
                                    have eX : X = (0, qU S i ((S j).1, (xMpL q p3 (S j).2.1), (S j).2.2), oMv (oFa (ms, mb, ra 28, od, pt, ro, gr, cd, ca, nI m0, ct, fau, rn) 0) (nI (m0 + nj)), a, k) := by rw [← hX]; unfold xs_map; rw [if_neg (by rw [ebi, ebj, ecq]; exact fun z => z.elim (fun z => by cases z) (fun z => z.elim (fun z => by cases z) (fun z => z.elim c16 (fun z => by omega)))), ecj, if_neg (by rw [hoj]; decide), eci, ecq]; unfold xr_map; rw [if_neg c82, if_neg hno, show oMq (ms, mb, ra 28, od, pt, ro, gr, cd, ca, nI m0, ct, fau, rn) = nI m0 from rfl, ecm, hlen, if_neg (by omega), nI_add]
                                    obtain ⟨q9, r9⟩ := hQ.rowM (o' := oCd (oMv (oFa (ms, mb, ra 28, od, pt, ro, gr, cd, ca, nI m0, ct, fau, rn) 0) (nI (m0 + nj))) 0) hY0 hY9 m9 f9 ⟨rfl, rfl, rfl, rfl, rfl, rfl⟩
                                    exact q_vret C hP hS ⟨rfl, A, by rw [eX]; exact q9, r9⟩ (by omega) dX8_map_267
                                  · replace c238 : 1 = 0 := (nI_eq (a := 1) (b := 0) (by omega) (by omega)).mp c238
                                    exfalso; omega
                                · rw [if_neg cf]
                                  refine lv_iconst (v := nI 4) hx hb dX8_map_234 (by decide) ?_
                                  refine q_callV (rest := []) C (c_X8_good0 l D cy N0 hv8 y ms mb (ra 28) od pt fi re rc rs so ot cn la ro gr 0 ca (nI m0) ct (nI 0) cs ce rn (nI 4) hY) kX8_good g1249 g1251 rfl gp41 g4 hP hS hY (by first | decide | omega) hl.1 rfl (by decide) (by first | decide | omega) dX8_map_235 (fun q ce E h' H1 locs1 hE => hE.elim) (fun v hh14 H locs hq hP hS => ?_)
                                  obtain ⟨rfl, rfl⟩ := hq
                                  replace hP : qP D N0 (qs hv8 y (.inr (8, [.ref ms, .ref mb, .ref (ra 28), .int gr, .int (nI 4), .int ca, .int (nI m0), .ref od, .ref pt, .int ct, .int (nI 0), .ref fi, .ref re, .int cs, .ref rc, .ref rs, .ref so, .ref ot, .ref cn, .ref la, .int ce, .ref ro, .int rn]))) H := hP
                                  obtain ⟨hv10, ehv10⟩ : ∃ z : qH, z = qs hv8 y (.inr (8, [.ref ms, .ref mb, .ref (ra 28), .int gr, .int (nI 4), .int ca, .int (nI m0), .ref od, .ref pt, .int ct, .int (nI 0), .ref fi, .ref re, .int cs, .ref rc, .ref rs, .ref so, .ref ot, .ref cn, .ref la, .int ce, .ref ro, .int rn])) := ⟨_, rfl⟩
                                  rw [← ehv10] at hP
                                  have khv10 : ∀ b o, b ≠ y → hv8 b = some o → hv10 b = some o := by rw [ehv10]; exact fun b o nb hb => (qs_ne nb).trans hb
                                  replace hms := khv10 _ _ (fun q => by subst q; have := hms.symm.trans hY; first | cases this | simp at this) hms
                                  replace hmb := khv10 _ _ (fun q => by subst q; have := hmb.symm.trans hY; first | cases this | simp at this) hmb
                                  replace faw := khv10 _ _ (fun q => by have z9 := faw; rw [q] at z9; have := z9.symm.trans hY; first | cases this | simp at this) faw
                                  replace fkw := khv10 _ _ (fun q => by have z9 := fkw; rw [q] at z9; have := z9.symm.trans hY; first | cases this | simp at this) fkw
                                  replace fvw := khv10 _ _ (fun q => by have z9 := fvw; rw [q] at z9; have := z9.symm.trans hY; first | cases this | simp at this) fvw
                                  replace faj := khv10 _ _ (fun q => by have z9 := faj; rw [q] at z9; have := z9.symm.trans hY; first | cases this | simp at this) faj
                                  replace fkj := khv10 _ _ (fun q => by have z9 := fkj; rw [q] at z9; have := z9.symm.trans hY; first | cases this | simp at this) fkj
                                  replace fvj := khv10 _ _ (fun q => by have z9 := fvj; rw [q] at z9; have := z9.symm.trans hY; first | cases this | simp at this) fvj
                                  replace hY : hv10 y = some (.inr (8, [.ref ms, .ref mb, .ref (ra 28), .int gr, .int (nI 4), .int ca, .int (nI m0), .ref od, .ref pt, .int ct, .int (nI 0), .ref fi, .ref re, .int cs, .ref rc, .ref rs, .ref so, .ref ot, .ref cn, .ref la, .int ce, .ref ro, .int rn])) := by rw [ehv10]; exact qs_self
                                  clear ehv10
                                  replace fr := fun b o hb n1 n2 => khv10 b o n1 (fr b o hb n1 n2)
                                  refine lv_if_ne (tgt := 242) hx hb dX8_map_238 (by decide) (fun c238 => ?_) (fun c238 => ?_)
                                  · replace c238 : ¬ 0 = 0 := fun zq => c238 ((nI_eq (a := 0) (b := 0) (by omega) (by omega)).mpr zq)
                                    exfalso; omega
                                  · replace c238 : 0 = 0 := (nI_eq (a := 0) (b := 0) (by omega) (by omega)).mp c238
                                    have eX : X = (4, S, oFa (ms, mb, ra 28, od, pt, ro, gr, cd, ca, nI m0, ct, fau, rn) 0, a, k) := by rw [← hX]; unfold xs_map; rw [if_neg (by rw [ebi, ebj, ecq]; exact fun z => z.elim (fun z => by cases z) (fun z => z.elim (fun z => by cases z) (fun z => z.elim c16 (fun z => by omega)))), ecj, if_neg (by rw [hoj]; decide), eci, ecq]; unfold xr_map; rw [if_neg c82, if_neg hno, show oMq (ms, mb, ra 28, od, pt, ro, gr, cd, ca, nI m0, ct, fau, rn) = nI m0 from rfl, ecm, hlen, if_pos (by omega)]
                                    obtain ⟨m8, f8⟩ := hM.fin0 hY0 (h' := hv10) ⟨hRw.1, hRw.2.1, hRw.2.2.1, faw, fkw, fvw⟩ fr
                                    obtain ⟨q8, r8⟩ := hQ.rowM (o' := oCd (oFa (ms, mb, ra 28, od, pt, ro, gr, cd, ca, nI m0, ct, fau, rn) 0) 4) hY0 hY m8 f8 ⟨rfl, rfl, rfl, rfl, rfl, rfl⟩
                                    exact q_vret C hP hS ⟨rfl, A, by rw [eX]; exact q8, r8⟩ (by omega) dX8_map_241
                          · have hno : xNo q p3 (S j).2.1 = true := by rw [hLj, xNo_row, ← eii]; exact hzf
                            refine lv_aload_n hx hb dX8_map_165 rfl (lv_at hl 4 rfl) ?_
                            refine lv_aload_n hx hb dX8_map_166 rfl (lv_at hl 4 rfl) ?_
                            refine q_get C hP hY rfl inX8 10 (by decide) g1177 rfl dX8_map_167 ?_
                            refine lv_iconst (v := nI 1) hx hb dX8_map_170 (by decide) ?_
                            refine lv_icmp_eq (tgt := 178) hx hb dX8_map_171 (by decide) (fun c171 => ?_) (fun c171 => ?_)
                            · replace c171 : 1 = 1 := (nI_eq (a := 1) (b := 1) (by omega) (by omega)).mp c171
                              refine lv_iconst (v := nI 0) hx hb dX8_map_178 (by decide) ?_
                              refine lv_iconst (v := nI 3) hx hb dX8_map_179 (by decide) ?_
                              refine q_callV (rest := []) C (c_X8_good0 l D cy N0 hv0 y ms mb (ra 28) od pt fi re rc rs so ot cn la ro gr 0 ca (nI m0) ct (nI 1) cs ce rn (nI 3) hY) kX8_good g1249 g1251 rfl gp41 g4 hP hS hY (by first | decide | omega) hl.1 rfl (by decide) (by first | decide | omega) dX8_map_180 (fun q ce E h' H1 locs1 hE => hE.elim) (fun v hh15 H locs hq hP hS => ?_)
                              obtain ⟨rfl, rfl⟩ := hq
                              replace hP : qP D N0 (qs hv0 y (.inr (8, [.ref ms, .ref mb, .ref (ra 28), .int gr, .int (nI 3), .int ca, .int (nI m0), .ref od, .ref pt, .int ct, .int (nI 1), .ref fi, .ref re, .int cs, .ref rc, .ref rs, .ref so, .ref ot, .ref cn, .ref la, .int ce, .ref ro, .int rn]))) H := hP
                              obtain ⟨hv11, ehv11⟩ : ∃ z : qH, z = qs hv0 y (.inr (8, [.ref ms, .ref mb, .ref (ra 28), .int gr, .int (nI 3), .int ca, .int (nI m0), .ref od, .ref pt, .int ct, .int (nI 1), .ref fi, .ref re, .int cs, .ref rc, .ref rs, .ref so, .ref ot, .ref cn, .ref la, .int ce, .ref ro, .int rn])) := ⟨_, rfl⟩
                              rw [← ehv11] at hP
                              have khv11 : ∀ b o, b ≠ y → hv0 b = some o → hv11 b = some o := by rw [ehv11]; exact fun b o nb hb => (qs_ne nb).trans hb
                              replace hms := khv11 _ _ (fun q => by subst q; have := hms.symm.trans hY; first | cases this | simp at this) hms
                              replace hmb := khv11 _ _ (fun q => by subst q; have := hmb.symm.trans hY; first | cases this | simp at this) hmb
                              replace faw := khv11 _ _ (fun q => by have z9 := faw; rw [q] at z9; have := z9.symm.trans hY; first | cases this | simp at this) faw
                              replace fkw := khv11 _ _ (fun q => by have z9 := fkw; rw [q] at z9; have := z9.symm.trans hY; first | cases this | simp at this) fkw
                              replace fvw := khv11 _ _ (fun q => by have z9 := fvw; rw [q] at z9; have := z9.symm.trans hY; first | cases this | simp at this) fvw
                              replace faj := khv11 _ _ (fun q => by have z9 := faj; rw [q] at z9; have := z9.symm.trans hY; first | cases this | simp at this) faj
                              replace fkj := khv11 _ _ (fun q => by have z9 := fkj; rw [q] at z9; have := z9.symm.trans hY; first | cases this | simp at this) fkj
                              replace fvj := khv11 _ _ (fun q => by have z9 := fvj; rw [q] at z9; have := z9.symm.trans hY; first | cases this | simp at this) fvj
                              replace hY : hv11 y = some (.inr (8, [.ref ms, .ref mb, .ref (ra 28), .int gr, .int (nI 3), .int ca, .int (nI m0), .ref od, .ref pt, .int ct, .int (nI 1), .ref fi, .ref re, .int cs, .ref rc, .ref rs, .ref so, .ref ot, .ref cn, .ref la, .int ce, .ref ro, .int rn])) := by rw [ehv11]; exact qs_self
                              clear ehv11
                              replace fr := fun b o hb n1 n2 => khv11 b o n1 (fr b o hb n1 n2)
                              refine lv_if_eq (tgt := 241) hx hb dX8_map_183 (by decide) (fun c183 => ?_) (fun c183 => ?_)
                              · replace c183 : 0 = 0 := (nI_eq (a := 0) (b := 0) (by omega) (by omega)).mp c183
                                have eX : X = (3, S, oFa (ms, mb, ra 28, od, pt, ro, gr, cd, ca, nI m0, ct, fau, rn) 1, a, k) := by rw [← hX]; unfold xs_map; rw [if_neg (by rw [ebi, ebj, ecq]; exact fun z => z.elim (fun z => by cases z) (fun z => z.elim (fun z => by cases z) (fun z => z.elim c16 (fun z => by omega)))), ecj, if_neg (by rw [hoj]; decide), eci, ecq]; unfold xr_map; rw [if_neg c82, if_pos hno]
                                obtain ⟨m8, f8⟩ := hM.fin0 hY0 (h' := hv11) ⟨hRw.1, hRw.2.1, hRw.2.2.1, faw, fkw, fvw⟩ fr
                                obtain ⟨q8, r8⟩ := hQ.rowM (o' := oCd (oFa (ms, mb, ra 28, od, pt, ro, gr, cd, ca, nI m0, ct, fau, rn) 1) 3) hY0 hY m8 f8 ⟨rfl, rfl, rfl, rfl, rfl, rfl⟩
                                exact q_vret C hP hS ⟨rfl, A, by rw [eX]; exact q8, r8⟩ (by omega) dX8_map_241
                              · replace c183 : ¬ 0 = 0 := fun zq => c183 ((nI_eq (a := 0) (b := 0) (by omega) (by omega)).mpr zq)
                                exfalso; omega
                            · replace c171 : ¬ 1 = 1 := fun zq => c171 ((nI_eq (a := 1) (b := 1) (by omega) (by omega)).mpr zq)
                              exfalso; omega
                        · replace c131 : ¬ nj ≤ ii := fun zq => c131 ((nI_leI (a := nj) (b := ii) (by omega) (by omega)).mpr zq)
                          refine lv_aload_n hx hb dX8_map_134 rfl (lv_at hl 4 rfl) ?_
                          refine q_get C hP hY rfl inX8 2 (by decide) g1169 rfl dX8_map_135 ?_
                          refine q_get C hP faw rfl inX7 0 (by decide) g1138 rfl dX8_map_138 ?_
                          refine lv_iload hx hb dX8_map_141 (lv_at hl 0 rfl) ?_
                          refine lv_aload_n hx hb dX8_map_143 rfl (lv_at hl 4 rfl) ?_
                          refine lv_iload_n hx hb dX8_map_144 rfl (lv_at hl 3 rfl) ?_
                          refine lv_lload hx hb dX8_map_145 (lv_at hl 2 rfl) ?_
                          refine lv_aload hx hb dX8_map_147 (lv_at hl 1 rfl) ?_
                          refine q_get C hP faj rfl inX7 0 (by decide) g1138 rfl dX8_map_149 ?_
                          refine lv_iload hx hb dX8_map_152 (lv_at hl 0 rfl) ?_
                          refine q_laldN C hP fkj (by omega) (by omega) dX8_map_154 ?_
                          refine q_callV (rest := [.int (nI ii), .ref (rk 28)]) C (c_X8_function l D cy N0 hv0 y ms mb (ra 28) od pt fi re rc rs so ot cn la ro gr 0 ca (nI m0) ct zf cs ce rn q (Fj ii) p3 hY (by omega)) kX8_function g1339 g1341 rfl gp52 g4 hP hS hY (by first | decide | omega) hl.1 rfl (by simp [q_catrf, q_cati, q_catl, q_cata, q_catn]) (by first | decide | omega) dX8_map_155 (fun q ce E h' H1 locs1 hE => hE.elim) (fun v hh16 H locs hq hP hS => ?_)
                          rcases hq with ⟨r8, er8, rfl, rfl⟩ | ⟨er8, rfl, rfl⟩
                          · refine q_lastN C hP hS fkw (by omega) (by omega) dX8_map_158 (fun H locs hP hS => ?_)
                            obtain ⟨hv12, ehv12⟩ : ∃ z : qH, z = qs hv0 (rk 28) (.inl (cy 1, 1001, .inr (.inl (vp_updL fW ii r8)))) := ⟨_, rfl⟩
                            rw [← ehv12] at hP
                            have khv12 : ∀ b o, b ≠ (rk 28) → hv0 b = some o → hv12 b = some o := by rw [ehv12]; exact fun b o nb hb => (qs_ne nb).trans hb
                            replace hY := khv12 _ _ (fun q => by have z9 := hY; rw [q] at z9; have := z9.symm.trans fkw; first | cases this | simp at this) hY
                            replace hms := khv12 _ _ (fun q => by have z9 := hms; rw [q] at z9; have := z9.symm.trans fkw; first | cases this | simp at this) hms
                            replace hmb := khv12 _ _ (fun q => by have z9 := hmb; rw [q] at z9; have := z9.symm.trans fkw; first | cases this | simp at this) hmb
                            replace faw := khv12 _ _ (fun q => by have z9 := faw; rw [q] at z9; have := z9.symm.trans fkw; first | cases this | simp at this) faw
                            replace fvw := khv12 _ _ hRw.1.symm fvw
                            replace faj := khv12 _ _ apj.1.2.1 faj
                            replace fkj := khv12 _ _ apj.2.1.2.1 fkj
                            replace fvj := khv12 _ _ apj.2.2.2.1 fvj
                            replace fkw : hv12 (rk 28) = some (.inl (cy 1, 1001, .inr (.inl (vp_updL fW ii r8)))) := by rw [ehv12]; exact qs_self
                            clear ehv12
                            replace fr := fun b o hb n1 n2 => khv12 b o n2.2.1 (fr b o hb n1 n2)
                            refine lv_iinc (v := nI (ii + 1)) (lv' := [(7, .int (nI (ii + 1))), (6, .ref (ra j)), (4, .long p3), (3, .int (nI q)), (0, .ref y), (1, .int (nI i))]) hx hb dX8_map_159 hl (k := 0) rfl (nI_1 ii) (by decide) rfl (fun ls hl => ?_)
                            refine lv_goto (tgt := 124) hx hb dX8_map_162 (by decide) ?_
                            exact ihl H locs ls hv12 _ (ii + 1) zf (by omega) hY hms hmb faw fkw fvw faj fkj fvj fr (fun q9 z => if e : q9 = ii then by (subst e; rw [vp_updL, if_pos rfl, er8]; rfl) else by (rw [vp_updL, if_neg e]; exact hfW q9 (by omega))) (hzf.elim (fun z => Or.inl ⟨z.1, fun q9 hq => if e : q9 = ii then by (subst e; rw [er8]; exact fun z => by cases z) else z.2 q9 (by omega)⟩) (fun z => Or.inr ⟨z.1, z.2.choose, by have := z.2.choose_spec.1; omega, z.2.choose_spec.2⟩)) (by omega) (lv_sub hl [0, 1, 2, 3, 4, 5] rfl) hP hS
                          · replace hP : qP D N0 (qs hv0 y (.inr (8, [.ref ms, .ref mb, .ref (ra 28), .int gr, .int 0, .int ca, .int (nI m0), .ref od, .ref pt, .int ct, .int 1, .ref fi, .ref re, .int cs, .ref rc, .ref rs, .ref so, .ref ot, .ref cn, .ref la, .int ce, .ref ro, .int rn]))) H := hP
                            obtain ⟨hv13, ehv13⟩ : ∃ z : qH, z = qs hv0 y (.inr (8, [.ref ms, .ref mb, .ref (ra 28), .int gr, .int 0, .int ca, .int (nI m0), .ref od, .ref pt, .int ct, .int 1, .ref fi, .ref re, .int cs, .ref rc, .ref rs, .ref so, .ref ot, .ref cn, .ref la, .int ce, .ref ro, .int rn])) := ⟨_, rfl⟩
                            rw [← ehv13] at hP
                            have khv13 : ∀ b o, b ≠ y → hv0 b = some o → hv13 b = some o := by rw [ehv13]; exact fun b o nb hb => (qs_ne nb).trans hb
                            replace hms := khv13 _ _ (fun q => by subst q; have := hms.symm.trans hY; first | cases this | simp at this) hms
                            replace hmb := khv13 _ _ (fun q => by subst q; have := hmb.symm.trans hY; first | cases this | simp at this) hmb
                            replace faw := khv13 _ _ (fun q => by have z9 := faw; rw [q] at z9; have := z9.symm.trans hY; first | cases this | simp at this) faw
                            replace fkw := khv13 _ _ (fun q => by have z9 := fkw; rw [q] at z9; have := z9.symm.trans hY; first | cases this | simp at this) fkw
                            replace fvw := khv13 _ _ (fun q => by have z9 := fvw; rw [q] at z9; have := z9.symm.trans hY; first | cases this | simp at this) fvw
                            replace faj := khv13 _ _ (fun q => by have z9 := faj; rw [q] at z9; have := z9.symm.trans hY; first | cases this | simp at this) faj
                            replace fkj := khv13 _ _ (fun q => by have z9 := fkj; rw [q] at z9; have := z9.symm.trans hY; first | cases this | simp at this) fkj
                            replace fvj := khv13 _ _ (fun q => by have z9 := fvj; rw [q] at z9; have := z9.symm.trans hY; first | cases this | simp at this) fvj
                            replace hY : hv13 y = some (.inr (8, [.ref ms, .ref mb, .ref (ra 28), .int gr, .int 0, .int ca, .int (nI m0), .ref od, .ref pt, .int ct, .int 1, .ref fi, .ref re, .int cs, .ref rc, .ref rs, .ref so, .ref ot, .ref cn, .ref la, .int ce, .ref ro, .int rn])) := by rw [ehv13]; exact qs_self
                            clear ehv13
                            replace fr := fun b o hb n1 n2 => khv13 b o n1 (fr b o hb n1 n2)
                            refine q_lastN C hP hS fkw (by omega) (by omega) dX8_map_158 (fun H locs hP hS => ?_)
                            obtain ⟨hv14, ehv14⟩ : ∃ z : qH, z = qs hv13 (rk 28) (.inl (cy 1, 1001, .inr (.inl (vp_updL fW ii 0)))) := ⟨_, rfl⟩
                            rw [← ehv14] at hP
                            have khv14 : ∀ b o, b ≠ (rk 28) → hv13 b = some o → hv14 b = some o := by rw [ehv14]; exact fun b o nb hb => (qs_ne nb).trans hb
                            replace hY := khv14 _ _ (fun q => by have z9 := hY; rw [q] at z9; have := z9.symm.trans fkw; first | cases this | simp at this) hY
                            replace hms := khv14 _ _ (fun q => by have z9 := hms; rw [q] at z9; have := z9.symm.trans fkw; first | cases this | simp at this) hms
                            replace hmb := khv14 _ _ (fun q => by have z9 := hmb; rw [q] at z9; have := z9.symm.trans fkw; first | cases this | simp at this) hmb
                            replace faw := khv14 _ _ (fun q => by have z9 := faw; rw [q] at z9; have := z9.symm.trans fkw; first | cases this | simp at this) faw
                            replace fvw := khv14 _ _ hRw.1.symm fvw
                            replace faj := khv14 _ _ apj.1.2.1 faj
                            replace fkj := khv14 _ _ apj.2.1.2.1 fkj
                            replace fvj := khv14 _ _ apj.2.2.2.1 fvj
                            replace fkw : hv14 (rk 28) = some (.inl (cy 1, 1001, .inr (.inl (vp_updL fW ii 0)))) := by rw [ehv14]; exact qs_self
                            clear ehv14
                            replace fr := fun b o hb n1 n2 => khv14 b o n2.2.1 (fr b o hb n1 n2)
                            refine lv_iinc (v := nI (ii + 1)) (lv' := [(7, .int (nI (ii + 1))), (6, .ref (ra j)), (4, .long p3), (3, .int (nI q)), (0, .ref y), (1, .int (nI i))]) hx hb dX8_map_159 hl (k := 0) rfl (nI_1 ii) (by decide) rfl (fun ls hl => ?_)
                            refine lv_goto (tgt := 124) hx hb dX8_map_162 (by decide) ?_
                            exact ihl H locs ls hv14 _ (ii + 1) (nI 1) (by omega) hY hms hmb faw fkw fvw faj fkj fvj fr (fun q9 z => if e : q9 = ii then by (subst e; rw [vp_updL, if_pos rfl, er8]; rfl) else by (rw [vp_updL, if_neg e]; exact hfW q9 (by omega))) (Or.inr ⟨rfl, ii, by omega, er8⟩) (by omega) (lv_sub hl [0, 1, 2, 3, 4, 5] rfl) hP hS
                    · refine lv_aload_n hx hb dX8_map_85 rfl (lv_at hl 1 rfl) ?_
                      refine q_get C hP hY rfl inX8 2 (by decide) g1169 rfl dX8_map_86 ?_
                      refine lv_aload_n hx hb dX8_map_89 rfl (lv_at hl 1 rfl) ?_
                      refine lv_aload hx hb dX8_map_90 (lv_at hl 0 rfl) ?_
                      refine q_get C hP faj rfl inX7 4 (by decide) g1144 rfl dX8_map_92 ?_
                      refine lv_iload_n hx hb dX8_map_95 rfl (lv_at hl 4 rfl) ?_
                      refine lv_lload hx hb dX8_map_96 (lv_at hl 5 rfl) ?_
                      have hs8 := hSt j (by omega) c82
                      have hL8 := (hV.L hB).1
                      have hLn := (hV.L hB).2
                      have hd8 := hDp j (by omega)
                      have hV8 : qWv Bd sl Rn dp ((oFa (oCd (ms, mb, ra 28, od, pt, ro, gr, cd, ca, nI m0, ct, fau, rn) 0) 0), a, k) := hV.obj rfl
                      obtain ⟨x6, z6, e6, hz6⟩ := xMap_f (o := (oFa (oCd (ms, mb, ra 28, od, pt, ro, gr, cd, ca, nI m0, ct, fau, rn) 0) 0)) (a := a) (k := k) (s := (S j).2.2.1) (n := q) (c := p3) rfl
                      obtain ⟨ep1, ep2⟩ := xMap_P hV8 (s := (S j).2.2.1) (n := q) (c := p3)
                      obtain ⟨T9, eT9⟩ : ∃ z, xMap (oFa (oCd (ms, mb, ra 28, od, pt, ro, gr, cd, ca, nI m0, ct, fau, rn) 0) 0) a k (S j).2.2.1 q p3 = z := ⟨_, rfl⟩
                      have hX2 : X = if z6 = 1 then (3, S, T9.2) else if 100 < (S j).2.2.2 + 1 then (4, S, T9.2) else (0, qU S i ((S j).1, (S j).2.1, T9.1, (S j).2.2.2 + 1), T9.2) := by rw [← hX]; unfold xs_map; rw [if_neg (by rw [ebi, ebj, ecq]; exact fun z => z.elim (fun z => by cases z) (fun z => z.elim (fun z => by cases z) (fun z => z.elim c16 (fun z => by omega)))), ecj, if_neg (by rw [hoj]; decide), eci, ecq]; unfold xr_map; rw [if_pos c82]; dsimp only; rw [eT9, show oFq T9.2.1 = z6 from by rw [← eT9, e6]; rfl]
                      rw [eT9] at e6 ep1 ep2
                      have eP1 : qP1 X.2.2.2.1 = qP1 T9.2.2.1 := by rw [hX2]; (repeat' split) <;> rfl
                      have eP2 : qP2 X.2.2.2.1 = qP2 T9.2.2.1 := by rw [hX2]; (repeat' split) <;> rfl
                      obtain ⟨m8, f8⟩ := hM.fin0 hY0 (h' := hv7) ⟨hRw.1, hRw.2.1, hRw.2.2.1, faw, fkw, fvw⟩ fr
                      obtain ⟨q8, r8⟩ := hQ.rowM (o' := (oFa (oCd (ms, mb, ra 28, od, pt, ro, gr, cd, ca, nI m0, ct, fau, rn) 0) 0)) hY0 hY m8 f8 ⟨rfl, rfl, rfl, rfl, rfl, rfl⟩
                      have hcall := w_mapped l D cy N0 hv7 y A (oFa (oCd (ms, mb, ra 28, od, pt, ro, gr, cd, ca, nI m0, ct, fau, rn) 0) 0) a k (S j).2.2.1 q p3 q8.1 q8.2.1 hL8 ⟨hs8.1, by omega⟩ (by omega) rfl
                      rw [eT9] at hcall
                      refine q_callV (rest := [.ref (ra 28)]) C (hcall) kX8_mapped g1347 g1349 rfl gp54 g4 hP hS hY (by first | decide | omega) hl.1 rfl (by simp [q_catrf, q_cati, q_catl, q_cata, q_catn]) (by first | decide | omega) dX8_map_98 (fun q ce E h' H1 locs1 hE => hE.elim) (fun v hh17 H locs hq hP hS => ?_)
                      obtain ⟨rfl, A1, hS1, hF1, nA1⟩ := hq
                      obtain ⟨s2, o2, a2, k2⟩ := T9
                      dsimp only at e6 hS1 hF1 ep1 ep2 eP1 eP2 hX2
                      subst e6
                      have ap9 := q8.2.2.2.2.2
                      replace hms := hF1.1 _ _ hms (qne_arr (cy := cy) hms hY) ap9.two.1
                      replace hmb := hF1.1 _ _ hmb (qne_arr (cy := cy) hmb hY) ap9.two.2
                      replace faw := hF1.1 _ _ faw (fun z => by rw [z] at faw; have := faw.symm.trans hY; cases this) (ap9.row (i := 28) (by omega)).1
                      replace fkw := hF1.1 _ _ fkw (qne_arr (cy := cy) fkw hY) (ap9.row (i := 28) (by omega)).2.1
                      replace fvw := hF1.1 _ _ fvw (qne_arr (cy := cy) fvw hY) (ap9.row (i := 28) (by omega)).2.2
                      replace faj := hF1.1 _ _ faj (fun z => by rw [z] at faj; have := faj.symm.trans hY; cases this) (ap9.row (i := j) (by omega)).1
                      replace fkj := hF1.1 _ _ fkj (qne_arr (cy := cy) fkj hY) (ap9.row (i := j) (by omega)).2.1
                      replace fvj := hF1.1 _ _ fvj (qne_arr (cy := cy) fvj hY) (ap9.row (i := j) (by omega)).2.2
                      obtain ⟨q7a, r7a⟩ := q8.str hS1 hF1 nA1 ⟨rfl, rfl, rfl, rfl, rfl, rfl⟩
                      have rta := r8.tr q8 rfl r7a
                      clear hY
                      obtain ⟨fja, rja, rcja, rsja, soja, otja, cnja, laja, hY⟩ := q7a.1.yo2
                      unfold qYo at hY
                      dsimp only [oFa, oMv, oCa, oCd] at hY
                      have hY0 := hY
                      have hM := q7a.2.2.1
                      have hrs := hM.2.2.2.2.1
                      replace hRw : qRw cy hh17 (ra 28) (rk 28) (rv 28) ((S j).1) (nI nj) (nI (S j).2.2.1) (nI (S j).2.2.2) rwj (qCp Fj fw nj) (qCp Gj gw nj) := ⟨hRw.1, hRw.2.1, hRw.2.2.1, faw, fkw, fvw⟩
                      replace fr : ∀ b o, hh17 b = some o → b ≠ y → qOf (ra 28) (rk 28) (rv 28) b → hh17 b = some o := fun b o hb _ _ => hb
                      refine q_put C hP hS faw rfl inX7 tyX7 tyX7_ok nmX7 4 (by decide) g1144 rfl rfl rfl (Nat.le_of_ble_eq_true rfl) dX8_map_101 (fun H locs hP hS => ?_)
                      replace hP : qP D N0 (qs hh17 (ra 28) (.inr (7, [.ref (rk 28), .ref (rv 28), .int (S j).1, .int (nI nj), .int (nI s2), .int (nI (S j).2.2.2), .int rwj]))) H := hP
                      obtain ⟨hv15, ehv15⟩ : ∃ z : qH, z = qs hh17 (ra 28) (.inr (7, [.ref (rk 28), .ref (rv 28), .int (S j).1, .int (nI nj), .int (nI s2), .int (nI (S j).2.2.2), .int rwj])) := ⟨_, rfl⟩
                      rw [← ehv15] at hP
                      have khv15 : ∀ b o, b ≠ (ra 28) → hh17 b = some o → hv15 b = some o := by rw [ehv15]; exact fun b o nb hb => (qs_ne nb).trans hb
                      replace hY := khv15 _ _ (fun q => by have z9 := hY; rw [q] at z9; have := z9.symm.trans faw; first | cases this | simp at this) hY
                      replace hms := khv15 _ _ (fun q => by have z9 := hms; rw [q] at z9; have := z9.symm.trans faw; first | cases this | simp at this) hms
                      replace hmb := khv15 _ _ (fun q => by have z9 := hmb; rw [q] at z9; have := z9.symm.trans faw; first | cases this | simp at this) hmb
                      replace fkw := khv15 _ _ (fun q => by have z9 := fkw; rw [q] at z9; have := z9.symm.trans faw; first | cases this | simp at this) fkw
                      replace fvw := khv15 _ _ (fun q => by have z9 := fvw; rw [q] at z9; have := z9.symm.trans faw; first | cases this | simp at this) fvw
                      replace faj := khv15 _ _ apj.1.1 faj
                      replace fkj := khv15 _ _ apj.2.1.1 fkj
                      replace fvj := khv15 _ _ apj.2.2.1 fvj
                      replace faw : hv15 (ra 28) = some (.inr (7, [.ref (rk 28), .ref (rv 28), .int (S j).1, .int (nI nj), .int (nI s2), .int (nI (S j).2.2.2), .int rwj])) := by rw [ehv15]; exact qs_self
                      clear ehv15
                      replace fr := fun b o hb n1 n2 => khv15 b o n2.1 (fr b o hb n1 n2)
                      refine lv_aload_n hx hb dX8_map_104 rfl (lv_at hl 1 rfl) ?_
                      refine q_get C hP hY rfl inX8 2 (by decide) g1169 rfl dX8_map_105 ?_
                      refine lv_aload hx hb dX8_map_108 (lv_at hl 0 rfl) ?_
                      refine q_get C hP faj rfl inX7 5 (by decide) g1145 rfl dX8_map_110 ?_
                      refine lv_iconst (v := nI 1) hx hb dX8_map_113 (by decide) ?_
                      refine q_iaddN hx hb dX8_map_114 ?_
                      refine q_put C hP hS faw rfl inX7 tyX7 tyX7_ok nmX7 5 (by decide) g1145 rfl rfl rfl (Nat.le_of_ble_eq_true rfl) dX8_map_115 (fun H locs hP hS => ?_)
                      replace hP : qP D N0 (qs hv15 (ra 28) (.inr (7, [.ref (rk 28), .ref (rv 28), .int (S j).1, .int (nI nj), .int (nI s2), .int (nI (((S j).2.2.2) + 1)), .int rwj]))) H := hP
                      obtain ⟨hv16, ehv16⟩ : ∃ z : qH, z = qs hv15 (ra 28) (.inr (7, [.ref (rk 28), .ref (rv 28), .int (S j).1, .int (nI nj), .int (nI s2), .int (nI (((S j).2.2.2) + 1)), .int rwj])) := ⟨_, rfl⟩
                      rw [← ehv16] at hP
                      have khv16 : ∀ b o, b ≠ (ra 28) → hv15 b = some o → hv16 b = some o := by rw [ehv16]; exact fun b o nb hb => (qs_ne nb).trans hb
                      replace hY := khv16 _ _ (fun q => by have z9 := hY; rw [q] at z9; have := z9.symm.trans faw; first | cases this | simp at this) hY
                      replace hms := khv16 _ _ (fun q => by have z9 := hms; rw [q] at z9; have := z9.symm.trans faw; first | cases this | simp at this) hms
                      replace hmb := khv16 _ _ (fun q => by have z9 := hmb; rw [q] at z9; have := z9.symm.trans faw; first | cases this | simp at this) hmb
                      replace fkw := khv16 _ _ (fun q => by have z9 := fkw; rw [q] at z9; have := z9.symm.trans faw; first | cases this | simp at this) fkw
                      replace fvw := khv16 _ _ (fun q => by have z9 := fvw; rw [q] at z9; have := z9.symm.trans faw; first | cases this | simp at this) fvw
                      replace faj := khv16 _ _ apj.1.1 faj
                      replace fkj := khv16 _ _ apj.2.1.1 fkj
                      replace fvj := khv16 _ _ apj.2.2.1 fvj
                      replace faw : hv16 (ra 28) = some (.inr (7, [.ref (rk 28), .ref (rv 28), .int (S j).1, .int (nI nj), .int (nI s2), .int (nI (((S j).2.2.2) + 1)), .int rwj])) := by rw [ehv16]; exact qs_self
                      clear ehv16
                      replace fr := fun b o hb n1 n2 => khv16 b o n2.1 (fr b o hb n1 n2)
                      refine lv_goto (tgt := 165) hx hb dX8_map_118 (by decide) ?_
                      refine lv_aload_n hx hb dX8_map_165 rfl (lv_at hl 1 rfl) ?_
                      refine lv_aload_n hx hb dX8_map_166 rfl (lv_at hl 1 rfl) ?_
                      refine q_get C hP hY rfl inX8 10 (by decide) g1177 rfl dX8_map_167 ?_
                      refine lv_iconst (v := 1) hx hb dX8_map_170 (by decide) ?_
                      refine lv_icmp_eq (tgt := 178) hx hb dX8_map_171 (by decide) (fun c171 => ?_) (fun c171 => ?_)
                      · refine lv_iconst (v := nI 0) hx hb dX8_map_178 (by decide) ?_
                        refine lv_iconst (v := nI 3) hx hb dX8_map_179 (by decide) ?_
                        refine q_callV (rest := []) C (c_X8_good0 l D cy N0 hv16 y ms mb (ra 28) od pt fja rja rcja rsja soja otja cnja laja ro gr 0 x6 (nI m0) ct z6 (nI a2.1) (nI k2.1) rn (nI 3) hY) kX8_good g1249 g1251 rfl gp41 g4 hP hS hY (by first | decide | omega) hl.1 rfl (by decide) (by first | decide | omega) dX8_map_180 (fun q ce E h' H1 locs1 hE => hE.elim) (fun v hh18 H locs hq hP hS => ?_)
                        obtain ⟨rfl, rfl⟩ := hq
                        replace hP : qP D N0 (qs hv16 y (.inr (8, [.ref ms, .ref mb, .ref (ra 28), .int gr, .int (nI 3), .int x6, .int (nI m0), .ref od, .ref pt, .int ct, .int z6, .ref fja, .ref rja, .int (nI a2.1), .ref rcja, .ref rsja, .ref soja, .ref otja, .ref cnja, .ref laja, .int (nI k2.1), .ref ro, .int rn]))) H := hP
                        obtain ⟨hv17, ehv17⟩ : ∃ z : qH, z = qs hv16 y (.inr (8, [.ref ms, .ref mb, .ref (ra 28), .int gr, .int (nI 3), .int x6, .int (nI m0), .ref od, .ref pt, .int ct, .int z6, .ref fja, .ref rja, .int (nI a2.1), .ref rcja, .ref rsja, .ref soja, .ref otja, .ref cnja, .ref laja, .int (nI k2.1), .ref ro, .int rn])) := ⟨_, rfl⟩
                        rw [← ehv17] at hP
                        have khv17 : ∀ b o, b ≠ y → hv16 b = some o → hv17 b = some o := by rw [ehv17]; exact fun b o nb hb => (qs_ne nb).trans hb
                        replace hms := khv17 _ _ (fun q => by subst q; have := hms.symm.trans hY; first | cases this | simp at this) hms
                        replace hmb := khv17 _ _ (fun q => by subst q; have := hmb.symm.trans hY; first | cases this | simp at this) hmb
                        replace faw := khv17 _ _ (fun q => by have z9 := faw; rw [q] at z9; have := z9.symm.trans hY; first | cases this | simp at this) faw
                        replace fkw := khv17 _ _ (fun q => by have z9 := fkw; rw [q] at z9; have := z9.symm.trans hY; first | cases this | simp at this) fkw
                        replace fvw := khv17 _ _ (fun q => by have z9 := fvw; rw [q] at z9; have := z9.symm.trans hY; first | cases this | simp at this) fvw
                        replace faj := khv17 _ _ (fun q => by have z9 := faj; rw [q] at z9; have := z9.symm.trans hY; first | cases this | simp at this) faj
                        replace fkj := khv17 _ _ (fun q => by have z9 := fkj; rw [q] at z9; have := z9.symm.trans hY; first | cases this | simp at this) fkj
                        replace fvj := khv17 _ _ (fun q => by have z9 := fvj; rw [q] at z9; have := z9.symm.trans hY; first | cases this | simp at this) fvj
                        replace hY : hv17 y = some (.inr (8, [.ref ms, .ref mb, .ref (ra 28), .int gr, .int (nI 3), .int x6, .int (nI m0), .ref od, .ref pt, .int ct, .int z6, .ref fja, .ref rja, .int (nI a2.1), .ref rcja, .ref rsja, .ref soja, .ref otja, .ref cnja, .ref laja, .int (nI k2.1), .ref ro, .int rn])) := by rw [ehv17]; exact qs_self
                        clear ehv17
                        replace fr := fun b o hb n1 n2 => khv17 b o n1 (fr b o hb n1 n2)
                        refine lv_if_eq (tgt := 241) hx hb dX8_map_183 (by decide) (fun c183 => ?_) (fun c183 => ?_)
                        · replace c183 : 0 = 0 := (nI_eq (a := 0) (b := 0) (by omega) (by omega)).mp c183
                          obtain ⟨m9, f9⟩ := hM.fin0 hY0 (h' := hv17) ⟨hRw.1, hRw.2.1, hRw.2.2.1, faw, fkw, fvw⟩ fr
                          rw [if_pos c171] at hX2
                          obtain ⟨q9, r9⟩ := q7a.rowM (o' := oCd (oFa (oCa (oFa (oCd (ms, mb, ra 28, od, pt, ro, gr, cd, ca, nI m0, ct, fau, rn) 0) 0) x6) z6) 3) hY0 hY m9 f9 ⟨rfl, rfl, rfl, rfl, rfl, rfl⟩
                          exact q_vret C hP hS ⟨rfl, A1, by rw [hX2]; exact q9, rta.tr q7a rfl r9⟩ (by omega) dX8_map_241
                        · replace c183 : ¬ 0 = 0 := fun zq => c183 ((nI_eq (a := 0) (b := 0) (by omega) (by omega)).mpr zq)
                          exfalso; omega
                      · refine lv_iconst (v := nI 1) hx hb dX8_map_174 (by decide) ?_
                        refine lv_goto (tgt := 179) hx hb dX8_map_175 (by decide) ?_
                        refine lv_iconst (v := nI 3) hx hb dX8_map_179 (by decide) ?_
                        refine q_callV (rest := []) C (c_X8_good1 l D cy N0 hv16 y ms mb (ra 28) od pt fja rja rcja rsja soja otja cnja laja ro gr 0 x6 (nI m0) ct z6 (nI a2.1) (nI k2.1) rn (nI 3) hY) kX8_good g1249 g1251 rfl gp41 g4 hP hS hY (by first | decide | omega) hl.1 rfl (by decide) (by first | decide | omega) dX8_map_180 (fun q ce E h' H1 locs1 hE => hE.elim) (fun v hh19 H locs hq hP hS => ?_)
                        obtain ⟨rfl, rfl⟩ := hq
                        replace hP : qP D N0 (qs hv16 y (.inr (8, [.ref ms, .ref mb, .ref (ra 28), .int gr, .int 0, .int x6, .int (nI m0), .ref od, .ref pt, .int ct, .int z6, .ref fja, .ref rja, .int (nI a2.1), .ref rcja, .ref rsja, .ref soja, .ref otja, .ref cnja, .ref laja, .int (nI k2.1), .ref ro, .int rn]))) H := hP
                        obtain ⟨hv18, ehv18⟩ : ∃ z : qH, z = qs hv16 y (.inr (8, [.ref ms, .ref mb, .ref (ra 28), .int gr, .int 0, .int x6, .int (nI m0), .ref od, .ref pt, .int ct, .int z6, .ref fja, .ref rja, .int (nI a2.1), .ref rcja, .ref rsja, .ref soja, .ref otja, .ref cnja, .ref laja, .int (nI k2.1), .ref ro, .int rn])) := ⟨_, rfl⟩
                        rw [← ehv18] at hP
                        have khv18 : ∀ b o, b ≠ y → hv16 b = some o → hv18 b = some o := by rw [ehv18]; exact fun b o nb hb => (qs_ne nb).trans hb
                        replace hms := khv18 _ _ (fun q => by subst q; have := hms.symm.trans hY; first | cases this | simp at this) hms
                        replace hmb := khv18 _ _ (fun q => by subst q; have := hmb.symm.trans hY; first | cases this | simp at this) hmb
                        replace faw := khv18 _ _ (fun q => by have z9 := faw; rw [q] at z9; have := z9.symm.trans hY; first | cases this | simp at this) faw
                        replace fkw := khv18 _ _ (fun q => by have z9 := fkw; rw [q] at z9; have := z9.symm.trans hY; first | cases this | simp at this) fkw
                        replace fvw := khv18 _ _ (fun q => by have z9 := fvw; rw [q] at z9; have := z9.symm.trans hY; first | cases this | simp at this) fvw
                        replace faj := khv18 _ _ (fun q => by have z9 := faj; rw [q] at z9; have := z9.symm.trans hY; first | cases this | simp at this) faj
                        replace fkj := khv18 _ _ (fun q => by have z9 := fkj; rw [q] at z9; have := z9.symm.trans hY; first | cases this | simp at this) fkj
                        replace fvj := khv18 _ _ (fun q => by have z9 := fvj; rw [q] at z9; have := z9.symm.trans hY; first | cases this | simp at this) fvj
                        replace hY : hv18 y = some (.inr (8, [.ref ms, .ref mb, .ref (ra 28), .int gr, .int 0, .int x6, .int (nI m0), .ref od, .ref pt, .int ct, .int z6, .ref fja, .ref rja, .int (nI a2.1), .ref rcja, .ref rsja, .ref soja, .ref otja, .ref cnja, .ref laja, .int (nI k2.1), .ref ro, .int rn])) := by rw [ehv18]; exact qs_self
                        clear ehv18
                        replace fr := fun b o hb n1 n2 => khv18 b o n1 (fr b o hb n1 n2)
                        refine lv_if_eq (tgt := 241) hx hb dX8_map_183 (by decide) (fun c183 => ?_) (fun c183 => ?_)
                        · replace c183 : 1 = 0 := (nI_eq (a := 1) (b := 0) (by omega) (by omega)).mp c183
                          exfalso; omega
                        · replace c183 : ¬ 1 = 0 := fun zq => c183 ((nI_eq (a := 1) (b := 0) (by omega) (by omega)).mpr zq)
                          refine lv_aload_n hx hb dX8_map_186 rfl (lv_at hl 1 rfl) ?_
                          refine lv_aload hx hb dX8_map_187 (lv_at hl 0 rfl) ?_
                          refine q_get C hP faj rfl inX7 2 (by decide) g1142 rfl dX8_map_189 ?_
                          refine lv_bipush (v := 6) hx hb dX8_map_192 (by decide) ?_
                          refine lv_icmp_ne (tgt := 224) hx hb dX8_map_194 (by decide) (fun c => absurd c82 c) (fun _ => ?_)
                          refine lv_aload_n hx hb dX8_map_197 rfl (lv_at hl 1 rfl) ?_
                          refine q_get C hP hY rfl inX8 10 (by decide) g1177 rfl dX8_map_198 ?_
                          have hz0 : z6 = 0 := hz6.resolve_right c171
                          refine lv_if_ne (tgt := 220) hx hb dX8_map_201 (by decide) (fun c => absurd hz0 c) (fun _ => ?_)
                          refine lv_aload_n hx hb dX8_map_204 rfl (lv_at hl 1 rfl) ?_
                          refine q_get C hP hY rfl inX8 2 (by decide) g1169 rfl dX8_map_205 ?_
                          refine q_get C hP faw rfl inX7 5 (by decide) g1145 rfl dX8_map_208 ?_
                          refine lv_bipush (v := nI 100) hx hb dX8_map_211 (by decide) ?_
                          refine lv_icmp_gt (tgt := 220) hx hb dX8_map_213 (by decide) (fun c213 => ?_) (fun c213 => ?_)
                          · replace c213 : 100 < (((S j).2.2.2) + 1) := (nI_ltI (a := 100) (b := (((S j).2.2.2) + 1)) (by omega) (by omega)).mp c213
                            refine lv_iconst (v := nI 0) hx hb dX8_map_220 (by decide) ?_
                            refine lv_goto (tgt := 234) hx hb dX8_map_221 (by decide) ?_
                            refine lv_iconst (v := nI 4) hx hb dX8_map_234 (by decide) ?_
                            refine q_callV (rest := []) C (c_X8_good0 l D cy N0 hv18 y ms mb (ra 28) od pt fja rja rcja rsja soja otja cnja laja ro gr 0 x6 (nI m0) ct z6 (nI a2.1) (nI k2.1) rn (nI 4) hY) kX8_good g1249 g1251 rfl gp41 g4 hP hS hY (by first | decide | omega) hl.1 rfl (by decide) (by first | decide | omega) dX8_map_235 (fun q ce E h' H1 locs1 hE => hE.elim) (fun v hh20 H locs hq hP hS => ?_)
                            obtain ⟨rfl, rfl⟩ := hq
                            replace hP : qP D N0 (qs hv18 y (.inr (8, [.ref ms, .ref mb, .ref (ra 28), .int gr, .int (nI 4), .int x6, .int (nI m0), .ref od, .ref pt, .int ct, .int z6, .ref fja, .ref rja, .int (nI a2.1), .ref rcja, .ref rsja, .ref soja, .ref otja, .ref cnja, .ref laja, .int (nI k2.1), .ref ro, .int rn]))) H := hP
                            obtain ⟨hv19, ehv19⟩ : ∃ z : qH, z = qs hv18 y (.inr (8, [.ref ms, .ref mb, .ref (ra 28), .int gr, .int (nI 4), .int x6, .int (nI m0), .ref od, .ref pt, .int ct, .int z6, .ref fja, .ref rja, .int (nI a2.1), .ref rcja, .ref rsja, .ref soja, .ref otja, .ref cnja, .ref laja, .int (nI k2.1), .ref ro, .int rn])) := ⟨_, rfl⟩
                            rw [← ehv19] at hP
                            have khv19 : ∀ b o, b ≠ y → hv18 b = some o → hv19 b = some o := by rw [ehv19]; exact fun b o nb hb => (qs_ne nb).trans hb
                            replace hms := khv19 _ _ (fun q => by subst q; have := hms.symm.trans hY; first | cases this | simp at this) hms
                            replace hmb := khv19 _ _ (fun q => by subst q; have := hmb.symm.trans hY; first | cases this | simp at this) hmb
                            replace faw := khv19 _ _ (fun q => by have z9 := faw; rw [q] at z9; have := z9.symm.trans hY; first | cases this | simp at this) faw
                            replace fkw := khv19 _ _ (fun q => by have z9 := fkw; rw [q] at z9; have := z9.symm.trans hY; first | cases this | simp at this) fkw
                            replace fvw := khv19 _ _ (fun q => by have z9 := fvw; rw [q] at z9; have := z9.symm.trans hY; first | cases this | simp at this) fvw
                            replace faj := khv19 _ _ (fun q => by have z9 := faj; rw [q] at z9; have := z9.symm.trans hY; first | cases this | simp at this) faj
                            replace fkj := khv19 _ _ (fun q => by have z9 := fkj; rw [q] at z9; have := z9.symm.trans hY; first | cases this | simp at this) fkj
                            replace fvj := khv19 _ _ (fun q => by have z9 := fvj; rw [q] at z9; have := z9.symm.trans hY; first | cases this | simp at this) fvj
                            replace hY : hv19 y = some (.inr (8, [.ref ms, .ref mb, .ref (ra 28), .int gr, .int (nI 4), .int x6, .int (nI m0), .ref od, .ref pt, .int ct, .int z6, .ref fja, .ref rja, .int (nI a2.1), .ref rcja, .ref rsja, .ref soja, .ref otja, .ref cnja, .ref laja, .int (nI k2.1), .ref ro, .int rn])) := by rw [ehv19]; exact qs_self
                            clear ehv19
                            replace fr := fun b o hb n1 n2 => khv19 b o n1 (fr b o hb n1 n2)
                            refine lv_if_ne (tgt := 242) hx hb dX8_map_238 (by decide) (fun c238 => ?_) (fun c238 => ?_)
                            · replace c238 : ¬ 0 = 0 := fun zq => c238 ((nI_eq (a := 0) (b := 0) (by omega) (by omega)).mpr zq)
                              exfalso; omega
                            · replace c238 : 0 = 0 := (nI_eq (a := 0) (b := 0) (by omega) (by omega)).mp c238
                              obtain ⟨m9, f9⟩ := hM.fin0 hY0 (h' := hv19) ⟨hRw.1, hRw.2.1, hRw.2.2.1, faw, fkw, fvw⟩ fr
                              rw [if_neg c171, if_pos (by omega)] at hX2
                              obtain ⟨q9, r9⟩ := q7a.rowM (o' := oCd (oFa (oCa (oFa (oCd (ms, mb, ra 28, od, pt, ro, gr, cd, ca, nI m0, ct, fau, rn) 0) 0) x6) z6) 4) hY0 hY m9 f9 ⟨rfl, rfl, rfl, rfl, rfl, rfl⟩
                              exact q_vret C hP hS ⟨rfl, A1, by rw [hX2]; exact q9, rta.tr q7a rfl r9⟩ (by omega) dX8_map_241
                          · replace c213 : ¬ 100 < (((S j).2.2.2) + 1) := fun zq => c213 ((nI_ltI (a := 100) (b := (((S j).2.2.2) + 1)) (by omega) (by omega)).mpr zq)
                            refine lv_iconst (v := nI 1) hx hb dX8_map_216 (by decide) ?_
                            refine lv_goto (tgt := 234) hx hb dX8_map_217 (by decide) ?_
                            refine lv_iconst (v := nI 4) hx hb dX8_map_234 (by decide) ?_
                            refine q_callV (rest := []) C (c_X8_good1 l D cy N0 hv18 y ms mb (ra 28) od pt fja rja rcja rsja soja otja cnja laja ro gr 0 x6 (nI m0) ct z6 (nI a2.1) (nI k2.1) rn (nI 4) hY) kX8_good g1249 g1251 rfl gp41 g4 hP hS hY (by first | decide | omega) hl.1 rfl (by decide) (by first | decide | omega) dX8_map_235 (fun q ce E h' H1 locs1 hE => hE.elim) (fun v hh21 H locs hq hP hS => ?_)
                            obtain ⟨rfl, rfl⟩ := hq
                            replace hP : qP D N0 (qs hv18 y (.inr (8, [.ref ms, .ref mb, .ref (ra 28), .int gr, .int 0, .int x6, .int (nI m0), .ref od, .ref pt, .int ct, .int z6, .ref fja, .ref rja, .int (nI a2.1), .ref rcja, .ref rsja, .ref soja, .ref otja, .ref cnja, .ref laja, .int (nI k2.1), .ref ro, .int rn]))) H := hP
                            obtain ⟨hv20, ehv20⟩ : ∃ z : qH, z = qs hv18 y (.inr (8, [.ref ms, .ref mb, .ref (ra 28), .int gr, .int 0, .int x6, .int (nI m0), .ref od, .ref pt, .int ct, .int z6, .ref fja, .ref rja, .int (nI a2.1), .ref rcja, .ref rsja, .ref soja, .ref otja, .ref cnja, .ref laja, .int (nI k2.1), .ref ro, .int rn])) := ⟨_, rfl⟩
                            rw [← ehv20] at hP
                            have khv20 : ∀ b o, b ≠ y → hv18 b = some o → hv20 b = some o := by rw [ehv20]; exact fun b o nb hb => (qs_ne nb).trans hb
                            replace hms := khv20 _ _ (fun q => by subst q; have := hms.symm.trans hY; first | cases this | simp at this) hms
                            replace hmb := khv20 _ _ (fun q => by subst q; have := hmb.symm.trans hY; first | cases this | simp at this) hmb
                            replace faw := khv20 _ _ (fun q => by have z9 := faw; rw [q] at z9; have := z9.symm.trans hY; first | cases this | simp at this) faw
                            replace fkw := khv20 _ _ (fun q => by have z9 := fkw; rw [q] at z9; have := z9.symm.trans hY; first | cases this | simp at this) fkw
                            replace fvw := khv20 _ _ (fun q => by have z9 := fvw; rw [q] at z9; have := z9.symm.trans hY; first | cases this | simp at this) fvw
                            replace faj := khv20 _ _ (fun q => by have z9 := faj; rw [q] at z9; have := z9.symm.trans hY; first | cases this | simp at this) faj
                            replace fkj := khv20 _ _ (fun q => by have z9 := fkj; rw [q] at z9; have := z9.symm.trans hY; first | cases this | simp at this) fkj
                            replace fvj := khv20 _ _ (fun q => by have z9 := fvj; rw [q] at z9; have := z9.symm.trans hY; first | cases this | simp at this) fvj
                            replace hY : hv20 y = some (.inr (8, [.ref ms, .ref mb, .ref (ra 28), .int gr, .int 0, .int x6, .int (nI m0), .ref od, .ref pt, .int ct, .int z6, .ref fja, .ref rja, .int (nI a2.1), .ref rcja, .ref rsja, .ref soja, .ref otja, .ref cnja, .ref laja, .int (nI k2.1), .ref ro, .int rn])) := by rw [ehv20]; exact qs_self
                            clear ehv20
                            replace fr := fun b o hb n1 n2 => khv20 b o n1 (fr b o hb n1 n2)
                            refine lv_if_ne (tgt := 242) hx hb dX8_map_238 (by decide) (fun c238 => ?_) (fun c238 => ?_)
                            · replace c238 : ¬ 1 = 0 := fun zq => c238 ((nI_eq (a := 1) (b := 0) (by omega) (by omega)).mpr zq)
                              refine lv_aload_n hx hb dX8_map_242 rfl (lv_at hl 1 rfl) ?_
                              refine lv_iload_n hx hb dX8_map_243 rfl (lv_at hl 2 rfl) ?_
                              refine lv_aload hx hb dX8_map_244 (lv_at hl 0 rfl) ?_
                              refine q_get C hP faj rfl inX7 2 (by decide) g1142 rfl dX8_map_246 ?_
                              refine lv_bipush (v := 6) hx hb dX8_map_249 (by decide) ?_
                              refine lv_icmp_ne (tgt := 258) hx hb dX8_map_251 (by decide) (fun c => absurd c82 c) (fun _ => ?_)
                              refine lv_iconst (v := nI 0) hx hb dX8_map_254 (by decide) ?_
                              refine lv_goto (tgt := 263) hx hb dX8_map_255 (by decide) ?_
                              obtain ⟨ni, rwi, Fi, Gi, hRi, hni, hLi, hKi⟩ := hrs i (by omega)
                              have api := hRi.apart hRw (hmd.two (i := i) (j := 28) (by omega) (by omega) (by omega))
                              replace hRi := hRi.keep2 (fun b o hb ho => fr b o ho (hRi.ney hY0 hb) (hb.elim (fun q => q ▸ api.1) (fun hb => hb.elim (fun q => q ▸ api.2.1) (fun q => q ▸ api.2.2))))
                              have fai := hRi.2.2.2.1
                              have fki := hRi.2.2.2.2.1
                              have fvi := hRi.2.2.2.2.2
                              unfold qRb at fai
                              unfold qJr at fki fvi
                              refine q_callV (rest := []) C (c_X8_done l D cy N0 hv20 y ms mb od pt fja rja rcja rsja soja otja cnja laja ro gr 0 x6 (nI m0) ct z6 (nI a2.1) (nI k2.1) rn ra rk rv i (nI 0) (S j).1 (nI s2) (nI (((S j).2.2.2) + 1)) rwj nj (qCp Fj fw nj) (qCp Gj gw nj) (S i).1 (nI (S i).2.2.1) (nI (S i).2.2.2) rwi ni Fi Gi hY hms hmd ⟨hRw.1, hRw.2.1, hRw.2.2.1, faw, fkw, fvw⟩ ⟨hRi.1, hRi.2.1, hRi.2.2.1, fai, fki, fvi⟩ (by omega) (by omega)) kX8_done g1293 g1295 rfl gp45 g4 hP hS hY (by first | decide | omega) hl.1 rfl (by decide) (by first | decide | omega) dX8_map_263 (fun q ce E h' H1 locs1 hE => hE.elim) (fun v hh22 H locs hq hP hS => ?_)
                              obtain ⟨rfl, hY9, hw9, hi9, fr9⟩ := hq
                              replace fr := fun b o hb n1 n2 n3 => fr9 b o (fr b o hb n1 n2) n1 n2 n3
                              rw [show (nI m0) + nI 0 = (nI m0) from Int32.add_zero _] at hY9
                              refine lv_pop hx hb dX8_map_266 rfl ?_
                              obtain ⟨m9, f9⟩ := hM.fin hY0 (i := i) (by omega) (s := ((S j).1, (S j).2.1, s2, (((S j).2.2.2) + 1))) ⟨nj, _, _, _, hi9, by omega, by rw [qLs_cp]; exact lw.symm, Or.inl rfl⟩ hw9 fr
                              rw [if_neg c171, if_neg (by omega)] at hX2
                              obtain ⟨q9, r9⟩ := q7a.rowM (o' := oCd (oFa (oCa (oFa (oCd (ms, mb, ra 28, od, pt, ro, gr, cd, ca, nI m0, ct, fau, rn) 0) 0) x6) z6) 0) hY0 hY9 m9 f9 ⟨rfl, rfl, rfl, rfl, rfl, rfl⟩
                              exact q_vret C hP hS ⟨rfl, A1, by rw [hX2]; exact q9, rta.tr q7a rfl r9⟩ (by omega) dX8_map_267
                            · replace c238 : 1 = 0 := (nI_eq (a := 1) (b := 0) (by omega) (by omega)).mp c238
                              exfalso; omega
                  · replace c49 : 1 = 0 := (nI_eq (a := 1) (b := 0) (by omega) (by omega)).mp c49
                    exfalso; omega
      · have ebj : bSl p1 = false := bSl_f sl9
        refine lv_if_eq (tgt := 29) hx hb dX8_map_12 (by decide) (fun c12 => ?_) (fun c12 => ?_)
        · replace c12 : 0 = 0 := (nI_eq (a := 0) (b := 0) (by omega) (by omega)).mp c12
          refine lv_iconst (v := nI 0) hx hb dX8_map_29 (by decide) ?_
          refine lv_iconst (v := nI 1) hx hb dX8_map_30 (by decide) ?_
          refine q_callV (rest := []) C (c_X8_good0 l D cy N0 h y ms mb (ra 28) od pt fi re rc rs so ot cn la ro gr cd ca (nI m0) ct fau cs ce rn (nI 1) hY) kX8_good g1249 g1251 rfl gp41 g4 hP hS hY (by first | decide | omega) hl.1 rfl (by decide) (by first | decide | omega) dX8_map_31 (fun q ce E h' H1 locs1 hE => hE.elim) (fun v hh23 H locs hq hP hS => ?_)
          obtain ⟨rfl, rfl⟩ := hq
          replace hP : qP D N0 (qs h y (.inr (8, [.ref ms, .ref mb, .ref (ra 28), .int gr, .int (nI 1), .int ca, .int (nI m0), .ref od, .ref pt, .int ct, .int fau, .ref fi, .ref re, .int cs, .ref rc, .ref rs, .ref so, .ref ot, .ref cn, .ref la, .int ce, .ref ro, .int rn]))) H := hP
          obtain ⟨hv21, ehv21⟩ : ∃ z : qH, z = qs h y (.inr (8, [.ref ms, .ref mb, .ref (ra 28), .int gr, .int (nI 1), .int ca, .int (nI m0), .ref od, .ref pt, .int ct, .int fau, .ref fi, .ref re, .int cs, .ref rc, .ref rs, .ref so, .ref ot, .ref cn, .ref la, .int ce, .ref ro, .int rn])) := ⟨_, rfl⟩
          rw [← ehv21] at hP
          have khv21 : ∀ b o, b ≠ y → h b = some o → hv21 b = some o := by rw [ehv21]; exact fun b o nb hb => (qs_ne nb).trans hb
          replace hms := khv21 _ _ (fun q => by subst q; have := hms.symm.trans hY; first | cases this | simp at this) hms
          replace hmb := khv21 _ _ (fun q => by subst q; have := hmb.symm.trans hY; first | cases this | simp at this) hmb
          replace faw := khv21 _ _ (fun q => by have z9 := faw; rw [q] at z9; have := z9.symm.trans hY; first | cases this | simp at this) faw
          replace fkw := khv21 _ _ (fun q => by have z9 := fkw; rw [q] at z9; have := z9.symm.trans hY; first | cases this | simp at this) fkw
          replace fvw := khv21 _ _ (fun q => by have z9 := fvw; rw [q] at z9; have := z9.symm.trans hY; first | cases this | simp at this) fvw
          replace hY : hv21 y = some (.inr (8, [.ref ms, .ref mb, .ref (ra 28), .int gr, .int (nI 1), .int ca, .int (nI m0), .ref od, .ref pt, .int ct, .int fau, .ref fi, .ref re, .int cs, .ref rc, .ref rs, .ref so, .ref ot, .ref cn, .ref la, .int ce, .ref ro, .int rn])) := by rw [ehv21]; exact qs_self
          clear ehv21
          replace fr := fun b o hb n1 n2 => khv21 b o n1 (fr b o hb n1 n2)
          refine lv_if_eq (tgt := 52) hx hb dX8_map_34 (by decide) (fun c34 => ?_) (fun c34 => ?_)
          · replace c34 : 0 = 0 := (nI_eq (a := 0) (b := 0) (by omega) (by omega)).mp c34
            have eX : X = (1, S, (ms, mb, ra 28, od, pt, ro, gr, cd, ca, nI m0, ct, fau, rn), a, k) := by rw [← hX]; unfold xs_map; rw [if_pos (by simp [ebi, ebj])]
            obtain ⟨m8, f8⟩ := hM.fin0 hY0 (h' := hv21) ⟨hRw.1, hRw.2.1, hRw.2.2.1, faw, fkw, fvw⟩ fr
            obtain ⟨q8, r8⟩ := hQ.rowM (o' := oCd (ms, mb, ra 28, od, pt, ro, gr, cd, ca, nI m0, ct, fau, rn) 1) hY0 hY m8 f8 ⟨rfl, rfl, rfl, rfl, rfl, rfl⟩
            exact q_vret C hP hS ⟨rfl, A, by rw [eX]; exact q8, r8⟩ (by omega) dX8_map_52
          · replace c34 : ¬ 0 = 0 := fun zq => c34 ((nI_eq (a := 0) (b := 0) (by omega) (by omega)).mpr zq)
            exfalso; omega
        · replace c12 : ¬ 0 = 0 := fun zq => c12 ((nI_eq (a := 0) (b := 0) (by omega) (by omega)).mpr zq)
          exfalso; omega
  · have ebi : bSl p0 = false := bSl_f sl9
    refine lv_if_eq (tgt := 29) hx hb dX8_map_5 (by decide) (fun c5 => ?_) (fun c5 => ?_)
    · replace c5 : 0 = 0 := (nI_eq (a := 0) (b := 0) (by omega) (by omega)).mp c5
      refine lv_iconst (v := nI 0) hx hb dX8_map_29 (by decide) ?_
      refine lv_iconst (v := nI 1) hx hb dX8_map_30 (by decide) ?_
      refine q_callV (rest := []) C (c_X8_good0 l D cy N0 h y ms mb (ra 28) od pt fi re rc rs so ot cn la ro gr cd ca (nI m0) ct fau cs ce rn (nI 1) hY) kX8_good g1249 g1251 rfl gp41 g4 hP hS hY (by first | decide | omega) hl.1 rfl (by decide) (by first | decide | omega) dX8_map_31 (fun q ce E h' H1 locs1 hE => hE.elim) (fun v hh24 H locs hq hP hS => ?_)
      obtain ⟨rfl, rfl⟩ := hq
      replace hP : qP D N0 (qs h y (.inr (8, [.ref ms, .ref mb, .ref (ra 28), .int gr, .int (nI 1), .int ca, .int (nI m0), .ref od, .ref pt, .int ct, .int fau, .ref fi, .ref re, .int cs, .ref rc, .ref rs, .ref so, .ref ot, .ref cn, .ref la, .int ce, .ref ro, .int rn]))) H := hP
      obtain ⟨hv22, ehv22⟩ : ∃ z : qH, z = qs h y (.inr (8, [.ref ms, .ref mb, .ref (ra 28), .int gr, .int (nI 1), .int ca, .int (nI m0), .ref od, .ref pt, .int ct, .int fau, .ref fi, .ref re, .int cs, .ref rc, .ref rs, .ref so, .ref ot, .ref cn, .ref la, .int ce, .ref ro, .int rn])) := ⟨_, rfl⟩
      rw [← ehv22] at hP
      have khv22 : ∀ b o, b ≠ y → h b = some o → hv22 b = some o := by rw [ehv22]; exact fun b o nb hb => (qs_ne nb).trans hb
      replace hms := khv22 _ _ (fun q => by subst q; have := hms.symm.trans hY; first | cases this | simp at this) hms
      replace hmb := khv22 _ _ (fun q => by subst q; have := hmb.symm.trans hY; first | cases this | simp at this) hmb
      replace faw := khv22 _ _ (fun q => by have z9 := faw; rw [q] at z9; have := z9.symm.trans hY; first | cases this | simp at this) faw
      replace fkw := khv22 _ _ (fun q => by have z9 := fkw; rw [q] at z9; have := z9.symm.trans hY; first | cases this | simp at this) fkw
      replace fvw := khv22 _ _ (fun q => by have z9 := fvw; rw [q] at z9; have := z9.symm.trans hY; first | cases this | simp at this) fvw
      replace hY : hv22 y = some (.inr (8, [.ref ms, .ref mb, .ref (ra 28), .int gr, .int (nI 1), .int ca, .int (nI m0), .ref od, .ref pt, .int ct, .int fau, .ref fi, .ref re, .int cs, .ref rc, .ref rs, .ref so, .ref ot, .ref cn, .ref la, .int ce, .ref ro, .int rn])) := by rw [ehv22]; exact qs_self
      clear ehv22
      replace fr := fun b o hb n1 n2 => khv22 b o n1 (fr b o hb n1 n2)
      refine lv_if_eq (tgt := 52) hx hb dX8_map_34 (by decide) (fun c34 => ?_) (fun c34 => ?_)
      · replace c34 : 0 = 0 := (nI_eq (a := 0) (b := 0) (by omega) (by omega)).mp c34
        have eX : X = (1, S, (ms, mb, ra 28, od, pt, ro, gr, cd, ca, nI m0, ct, fau, rn), a, k) := by rw [← hX]; unfold xs_map; rw [if_pos (by simp [ebi])]
        obtain ⟨m8, f8⟩ := hM.fin0 hY0 (h' := hv22) ⟨hRw.1, hRw.2.1, hRw.2.2.1, faw, fkw, fvw⟩ fr
        obtain ⟨q8, r8⟩ := hQ.rowM (o' := oCd (ms, mb, ra 28, od, pt, ro, gr, cd, ca, nI m0, ct, fau, rn) 1) hY0 hY m8 f8 ⟨rfl, rfl, rfl, rfl, rfl, rfl⟩
        exact q_vret C hP hS ⟨rfl, A, by rw [eX]; exact q8, r8⟩ (by omega) dX8_map_52
      · replace c34 : ¬ 0 = 0 := fun zq => c34 ((nI_eq (a := 0) (b := 0) (by omega) (by omega)).mpr zq)
        exfalso; omega
    · replace c5 : ¬ 0 = 0 := fun zq => c5 ((nI_eq (a := 0) (b := 0) (by omega) (by omega)).mpr zq)
      exfalso; omega
