def xSm (kd : Int32) (L1 L2 : qKV) : Bool := if kd = 1 ∨ kd = 2 then decide (L1.length = L2.length) && L1.all (fun p => xHas L2 p.1 && (decide (kd = 2) || decide (xLook L2 p.1 = p.2))) else decide (L1 = L2)
def xs_same (S : Nat → qSlot) (p0 p1 : Int32) (m : Nat) : Int32 × Int32 × Nat := if bSl p0 = false ∨ bSl p1 = false then (1, 0, m) else if bHo (S p0.toNatClampNeg).1 63 = false ∨ ¬ (S p0.toNatClampNeg).1 = (S p1.toNatClampNeg).1 then (2, 0, m) else if 20000 < m + ((S p0.toNatClampNeg).2.1.length + (S p1.toNatClampNeg).2.1.length) then (3, 0, m) else (0, if xSm (S p0.toNatClampNeg).1 (S p0.toNatClampNeg).2.1 (S p1.toNatClampNeg).2.1 = true then 1 else 0, m + ((S p0.toNatClampNeg).2.1.length + (S p1.toNatClampNeg).2.1.length))
theorem xSm_len {kd : Int32} {L1 L2 : qKV} (h : ¬ L1.length = L2.length) : xSm kd L1 L2 = false := by
  unfold xSm
  split
  · rw [decide_eq_false h]; rfl
  · exact decide_eq_false (fun e => h (by rw [e]))
theorem xSm_o {kd : Int32} {f g f2 g2 : Nat → Int64} {n : Nat} (hk : ¬ (kd = 1 ∨ kd = 2)) (h : ∀ j, j < n → f j = f2 j ∧ (kd = 3 → g j = g2 j)) : xSm kd (qLs kd f g n) (qLs kd f2 g2 n) = true := by
  unfold xSm
  rw [if_neg hk]
  exact decide_eq_true (qLs_ext (fun j hj => ⟨(h j hj).1, fun z => (h j hj).2 (z.resolve_left (fun q => hk (Or.inl q)))⟩))
theorem xSm_of {kd : Int32} {f g f2 g2 : Nat → Int64} {n j : Nat} (hk : ¬ (kd = 1 ∨ kd = 2)) (hj : j < n) (h : ¬ (f j = f2 j ∧ (kd = 3 → g j = g2 j))) : xSm kd (qLs kd f g n) (qLs kd f2 g2 n) = false := by
  unfold xSm
  rw [if_neg hk]
  refine decide_eq_false (fun e => h ?_)
  have z := congrArg (fun L : qKV => L[j]?) e
  try dsimp only at z
  rw [qLs_get2 hj, qLs_get2 hj] at z
  have z2 := Option.some.inj z
  refine ⟨congrArg Prod.fst z2, fun q => ?_⟩
  have := congrArg Prod.snd z2
  unfold xV at this
  simpa [q] using this
theorem xSm_h {kd : Int32} {f g : Nat → Int64} {n : Nat} {L2 : qKV} (hk : kd = 1 ∨ kd = 2) (hl : n = L2.length) (h : ∀ j, j < n → xHas L2 (f j) = true ∧ (kd = 1 → xLook L2 (f j) = g j)) : xSm kd (qLs kd f g n) L2 = true := by
  unfold xSm
  rw [if_pos hk, qLs_len, decide_eq_true hl, Bool.true_and, List.all_eq_true]
  intro p hp
  obtain ⟨j, hj, rfl⟩ := List.mem_map.mp hp
  obtain ⟨h1, h2⟩ := h j (List.mem_range.mp hj)
  rcases hk with rfl | rfl
  · simp [h1, h2]
  · simp [h1]
theorem xSm_hf {kd : Int32} {f g : Nat → Int64} {n j : Nat} {L2 : qKV} (hk : kd = 1 ∨ kd = 2) (hj : j < n) (h : ¬ (xHas L2 (f j) = true ∧ (kd = 1 → xLook L2 (f j) = g j))) : xSm kd (qLs kd f g n) L2 = false := by
  unfold xSm
  rw [if_pos hk]
  refine Bool.and_eq_false_iff.mpr (Or.inr ?_)
  refine List.all_eq_false.mpr ⟨(f j, xV kd (g j)), List.mem_of_getElem? (qLs_get2 hj), ?_⟩
  intro z
  apply h
  rcases hk with rfl | rfl
  · simp [xV] at z; exact ⟨z.1, fun _ => z.2⟩
  · simp at z; exact ⟨z, fun q => absurd q (by decide)⟩
theorem dX8_same_38 : decode cX8_same 38 = .ok (.aload_n 0, 1) := by decide +kernel
theorem dX8_same_39 : decode cX8_same 39 = .ok (.getfield 9, 3) := by decide +kernel
theorem dX8_same_42 : decode cX8_same 42 = .ok (.iload_n 1, 1) := by decide +kernel
theorem dX8_same_43 : decode cX8_same 43 = .ok (.aaload, 1) := by decide +kernel
theorem dX8_same_44 : decode cX8_same 44 = .ok (.getfield 75, 3) := by decide +kernel
theorem dX8_same_47 : decode cX8_same 47 = .ok (.aload_n 0, 1) := by decide +kernel
theorem dX8_same_48 : decode cX8_same 48 = .ok (.getfield 9, 3) := by decide +kernel
theorem dX8_same_51 : decode cX8_same 51 = .ok (.iload_n 2, 1) := by decide +kernel
theorem dX8_same_52 : decode cX8_same 52 = .ok (.aaload, 1) := by decide +kernel
theorem dX8_same_53 : decode cX8_same 53 = .ok (.getfield 75, 3) := by decide +kernel
theorem dX8_same_56 : decode cX8_same 56 = .ok (.if_icmp .ne 7, 3) := by decide +kernel
theorem dX8_same_59 : decode cX8_same 59 = .ok (.iconst 1, 1) := by decide +kernel
theorem dX8_same_60 : decode cX8_same 60 = .ok (.goto 4, 3) := by decide +kernel
theorem dX8_same_73 : decode cX8_same 73 = .ok (.aload_n 0, 1) := by decide +kernel
theorem dX8_same_74 : decode cX8_same 74 = .ok (.getfield 9, 3) := by decide +kernel
theorem dX8_same_77 : decode cX8_same 77 = .ok (.iload_n 1, 1) := by decide +kernel
theorem dX8_same_78 : decode cX8_same 78 = .ok (.aaload, 1) := by decide +kernel
theorem dX8_same_79 : decode cX8_same 79 = .ok (.astore_n 3, 1) := by decide +kernel
theorem dX8_same_80 : decode cX8_same 80 = .ok (.aload_n 0, 1) := by decide +kernel
theorem dX8_same_81 : decode cX8_same 81 = .ok (.getfield 9, 3) := by decide +kernel
theorem dX8_same_84 : decode cX8_same 84 = .ok (.iload_n 2, 1) := by decide +kernel
theorem dX8_same_85 : decode cX8_same 85 = .ok (.aaload, 1) := by decide +kernel
theorem dX8_same_86 : decode cX8_same 86 = .ok (.astore 4, 2) := by decide +kernel
theorem dX8_same_88 : decode cX8_same 88 = .ok (.aload_n 0, 1) := by decide +kernel
theorem dX8_same_89 : decode cX8_same 89 = .ok (.aload_n 0, 1) := by decide +kernel
theorem dX8_same_90 : decode cX8_same 90 = .ok (.iconst 0, 1) := by decide +kernel
theorem dX8_same_91 : decode cX8_same 91 = .ok (.aload_n 3, 1) := by decide +kernel
theorem dX8_same_92 : decode cX8_same 92 = .ok (.getfield 78, 3) := by decide +kernel
theorem dX8_same_95 : decode cX8_same 95 = .ok (.aload 4, 2) := by decide +kernel
theorem dX8_same_97 : decode cX8_same 97 = .ok (.getfield 78, 3) := by decide +kernel
theorem dX8_same_100 : decode cX8_same 100 = .ok (.iadd, 1) := by decide +kernel
theorem dX8_same_101 : decode cX8_same 101 = .ok (.invokevirtual 165, 3) := by decide +kernel
theorem dX8_same_104 : decode cX8_same 104 = .ok (.iconst 3, 1) := by decide +kernel
theorem dX8_same_105 : decode cX8_same 105 = .ok (.invokevirtual 100, 3) := by decide +kernel
theorem dX8_same_108 : decode cX8_same 108 = .ok (.ifCond .ne 5, 3) := by decide +kernel
theorem dX8_same_111 : decode cX8_same 111 = .ok (.iconst 0, 1) := by decide +kernel
theorem dX8_same_112 : decode cX8_same 112 = .ok (.ireturn, 1) := by decide +kernel
theorem dX8_same_113 : decode cX8_same 113 = .ok (.aload_n 0, 1) := by decide +kernel
theorem dX8_same_114 : decode cX8_same 114 = .ok (.dup, 1) := by decide +kernel
theorem dX8_same_115 : decode cX8_same 115 = .ok (.getfield 124, 3) := by decide +kernel
theorem dX8_same_118 : decode cX8_same 118 = .ok (.aload_n 3, 1) := by decide +kernel
theorem dX8_same_119 : decode cX8_same 119 = .ok (.getfield 78, 3) := by decide +kernel
theorem dX8_same_122 : decode cX8_same 122 = .ok (.aload 4, 2) := by decide +kernel
theorem dX8_same_124 : decode cX8_same 124 = .ok (.getfield 78, 3) := by decide +kernel
theorem dX8_same_127 : decode cX8_same 127 = .ok (.iadd, 1) := by decide +kernel
theorem dX8_same_128 : decode cX8_same 128 = .ok (.iadd, 1) := by decide +kernel
theorem dX8_same_129 : decode cX8_same 129 = .ok (.putfield 124, 3) := by decide +kernel
theorem dX8_same_132 : decode cX8_same 132 = .ok (.aload_n 3, 1) := by decide +kernel
theorem dX8_same_133 : decode cX8_same 133 = .ok (.getfield 78, 3) := by decide +kernel
theorem dX8_same_136 : decode cX8_same 136 = .ok (.aload 4, 2) := by decide +kernel
theorem dX8_same_138 : decode cX8_same 138 = .ok (.getfield 78, 3) := by decide +kernel
theorem dX8_same_141 : decode cX8_same 141 = .ok (.if_icmp .eq 5, 3) := by decide +kernel
theorem dX8_same_144 : decode cX8_same 144 = .ok (.iconst 0, 1) := by decide +kernel
theorem dX8_same_145 : decode cX8_same 145 = .ok (.ireturn, 1) := by decide +kernel
theorem dX8_same_146 : decode cX8_same 146 = .ok (.iconst 0, 1) := by decide +kernel
theorem dX8_same_147 : decode cX8_same 147 = .ok (.istore 5, 2) := by decide +kernel
theorem dX8_same_149 : decode cX8_same 149 = .ok (.iload 5, 2) := by decide +kernel
theorem dX8_same_151 : decode cX8_same 151 = .ok (.aload_n 3, 1) := by decide +kernel
theorem dX8_same_152 : decode cX8_same 152 = .ok (.getfield 78, 3) := by decide +kernel
theorem dX8_same_155 : decode cX8_same 155 = .ok (.if_icmp .ge 119, 3) := by decide +kernel
theorem dX8_same_158 : decode cX8_same 158 = .ok (.aload_n 3, 1) := by decide +kernel
theorem dX8_same_159 : decode cX8_same 159 = .ok (.getfield 75, 3) := by decide +kernel
theorem dX8_same_162 : decode cX8_same 162 = .ok (.iconst 1, 1) := by decide +kernel
theorem dX8_same_163 : decode cX8_same 163 = .ok (.if_icmp .eq 11, 3) := by decide +kernel
theorem dX8_same_166 : decode cX8_same 166 = .ok (.aload_n 3, 1) := by decide +kernel
theorem dX8_same_167 : decode cX8_same 167 = .ok (.getfield 75, 3) := by decide +kernel
theorem dX8_same_170 : decode cX8_same 170 = .ok (.iconst 2, 1) := by decide +kernel
theorem dX8_same_171 : decode cX8_same 171 = .ok (.if_icmp .ne 7, 3) := by decide +kernel
theorem dX8_same_174 : decode cX8_same 174 = .ok (.iconst 1, 1) := by decide +kernel
theorem dX8_same_175 : decode cX8_same 175 = .ok (.goto 4, 3) := by decide +kernel
theorem dX8_same_178 : decode cX8_same 178 = .ok (.iconst 0, 1) := by decide +kernel
theorem dX8_same_179 : decode cX8_same 179 = .ok (.istore 6, 2) := by decide +kernel
theorem dX8_same_181 : decode cX8_same 181 = .ok (.iload 6, 2) := by decide +kernel
theorem dX8_same_183 : decode cX8_same 183 = .ok (.ifCond .eq 18, 3) := by decide +kernel
theorem dX8_same_186 : decode cX8_same 186 = .ok (.aload 4, 2) := by decide +kernel
theorem dX8_same_188 : decode cX8_same 188 = .ok (.aload_n 3, 1) := by decide +kernel
theorem dX8_same_189 : decode cX8_same 189 = .ok (.getfield 90, 3) := by decide +kernel
theorem dX8_same_192 : decode cX8_same 192 = .ok (.iload 5, 2) := by decide +kernel
theorem dX8_same_194 : decode cX8_same 194 = .ok (.laload, 1) := by decide +kernel
theorem dX8_same_195 : decode cX8_same 195 = .ok (.invokestatic 112, 3) := by decide +kernel
theorem dX8_same_198 : decode cX8_same 198 = .ok (.goto 5, 3) := by decide +kernel
theorem dX8_same_201 : decode cX8_same 201 = .ok (.iload 5, 2) := by decide +kernel
theorem dX8_same_203 : decode cX8_same 203 = .ok (.istore 7, 2) := by decide +kernel
theorem dX8_same_205 : decode cX8_same 205 = .ok (.iload 7, 2) := by decide +kernel
theorem dX8_same_207 : decode cX8_same 207 = .ok (.ifCond .lt 22, 3) := by decide +kernel
theorem dX8_same_210 : decode cX8_same 210 = .ok (.aload_n 3, 1) := by decide +kernel
theorem dX8_same_211 : decode cX8_same 211 = .ok (.getfield 90, 3) := by decide +kernel
theorem dX8_same_214 : decode cX8_same 214 = .ok (.iload 5, 2) := by decide +kernel
theorem dX8_same_216 : decode cX8_same 216 = .ok (.laload, 1) := by decide +kernel
theorem dX8_same_217 : decode cX8_same 217 = .ok (.aload 4, 2) := by decide +kernel
theorem dX8_same_219 : decode cX8_same 219 = .ok (.getfield 90, 3) := by decide +kernel
theorem dX8_same_222 : decode cX8_same 222 = .ok (.iload 7, 2) := by decide +kernel
theorem dX8_same_224 : decode cX8_same 224 = .ok (.laload, 1) := by decide +kernel
theorem dX8_same_225 : decode cX8_same 225 = .ok (.lcmp, 1) := by decide +kernel
theorem dX8_same_226 : decode cX8_same 226 = .ok (.ifCond .eq 5, 3) := by decide +kernel
theorem dX8_same_229 : decode cX8_same 229 = .ok (.iconst 0, 1) := by decide +kernel
theorem dX8_same_230 : decode cX8_same 230 = .ok (.ireturn, 1) := by decide +kernel
theorem dX8_same_231 : decode cX8_same 231 = .ok (.aload_n 3, 1) := by decide +kernel
theorem dX8_same_232 : decode cX8_same 232 = .ok (.getfield 75, 3) := by decide +kernel
theorem dX8_same_235 : decode cX8_same 235 = .ok (.iconst 1, 1) := by decide +kernel
theorem dX8_same_236 : decode cX8_same 236 = .ok (.if_icmp .eq 11, 3) := by decide +kernel
theorem dX8_same_239 : decode cX8_same 239 = .ok (.aload_n 3, 1) := by decide +kernel
theorem dX8_same_240 : decode cX8_same 240 = .ok (.getfield 75, 3) := by decide +kernel
theorem dX8_same_243 : decode cX8_same 243 = .ok (.iconst 3, 1) := by decide +kernel
theorem dX8_same_244 : decode cX8_same 244 = .ok (.if_icmp .ne 24, 3) := by decide +kernel
theorem dX8_same_247 : decode cX8_same 247 = .ok (.aload_n 3, 1) := by decide +kernel
theorem dX8_same_248 : decode cX8_same 248 = .ok (.getfield 93, 3) := by decide +kernel
theorem dX8_same_251 : decode cX8_same 251 = .ok (.iload 5, 2) := by decide +kernel
theorem dX8_same_253 : decode cX8_same 253 = .ok (.laload, 1) := by decide +kernel
theorem dX8_same_254 : decode cX8_same 254 = .ok (.aload 4, 2) := by decide +kernel
theorem dX8_same_256 : decode cX8_same 256 = .ok (.getfield 93, 3) := by decide +kernel
theorem dX8_same_259 : decode cX8_same 259 = .ok (.iload 7, 2) := by decide +kernel
theorem dX8_same_261 : decode cX8_same 261 = .ok (.laload, 1) := by decide +kernel
theorem dX8_same_262 : decode cX8_same 262 = .ok (.lcmp, 1) := by decide +kernel
theorem dX8_same_263 : decode cX8_same 263 = .ok (.ifCond .eq 5, 3) := by decide +kernel
theorem dX8_same_266 : decode cX8_same 266 = .ok (.iconst 0, 1) := by decide +kernel
theorem dX8_same_267 : decode cX8_same 267 = .ok (.ireturn, 1) := by decide +kernel
theorem dX8_same_268 : decode cX8_same 268 = .ok (.iinc 5 1, 3) := by decide +kernel
theorem dX8_same_271 : decode cX8_same 271 = .ok (.goto (-122), 3) := by decide +kernel
theorem dX8_same_274 : decode cX8_same 274 = .ok (.iconst 1, 1) := by decide +kernel
theorem dX8_same_275 : decode cX8_same 275 = .ok (.ireturn, 1) := by decide +kernel
set_option maxRecDepth 100000 in
set_option maxHeartbeats 4000000 in
theorem c_X8_same (l : Launch) (D : va_G) (cy : Nat → ClassId) (N0 : Nat) (h : qH) (m0 : Nat) (y ms mb mw od pt fi re rc rs so ot cn la ro : Nat) (gr cd ca ct fau cs ce rn : Int32) (ra rk rv : Nat → Nat) (S : Nat → qSlot) (p0 p1 : Int32) (hY : h y = some (.inr (8, [.ref ms, .ref mb, .ref mw, .int gr, .int cd, .int ca, .int (nI m0), .ref od, .ref pt, .int ct, .int fau, .ref fi, .ref re, .int cs, .ref rc, .ref rs, .ref so, .ref ot, .ref cn, .ref la, .int ce, .ref ro, .int rn]))) (hM : qMR cy h ms mb mw ra rk rv S) (hI : ∀ i, i < 28 → qOk (S i).1 (S i).2.1) (hm0 : m0 ≤ 20000) : qC l D cy N0 yX8_same cX8_same 8 (some .boolean) 2 60 0 0 [.ref y, .int p0, .int p1] h (fun v h' => v = some (.int (xs_same S p0 p1 m0).2.1) ∧ h' y = some (.inr (8, [.ref ms, .ref mb, .ref mw, .int gr, .int (xs_same S p0 p1 m0).1, .int ca, .int (nI (xs_same S p0 p1 m0).2.2), .ref od, .ref pt, .int ct, .int fau, .ref fi, .ref re, .int cs, .ref rc, .ref rs, .ref so, .ref ot, .ref cn, .ref la, .int ce, .ref ro, .int rn])) ∧ qMR cy h' ms mb mw ra rk rv (S) ∧ qFm h h' y ra rk rv) (fun E h' => False) := by
  refine q_ofW (by decide) (by exact Nat.le_of_ble_eq_true rfl) ?_
  intro p e s m below meth c ls C hP hl
  have hx := C.1
  have hb := C.2.1
  have hS : va_S (qA N0) s.heap s.heap [] := va_S.rf
  have hl : lv_has ls 8 [(0, .ref y), (1, .int p0), (2, .int p1)] := hl
  have hle : qle h h := qle_rf
  have hY0 := hY
  obtain ⟨hms, hmb, hmw, hmd, hrs, kdw, smw, dpw, rww, nw, fw, gw, hRw⟩ := id hM
  subst hmw
  have fr : ∀ b o, h b = some o → b ≠ y → qOf (ra 28) (rk 28) (rv 28) b → h b = some o := fun b o hb _ _ => hb
  have faw := hRw.2.2.2.1
  have fkw := hRw.2.2.2.2.1
  have fvw := hRw.2.2.2.2.2
  unfold qRb at faw
  unfold qJr at fkw fvw
  refine lv_aload_n hx hb dX8_same_0 rfl (lv_at hl 0 rfl) ?_
  refine lv_iload_n hx hb dX8_same_1 rfl (lv_at hl 1 rfl) ?_
  refine q_callS (rest := [.ref y]) C (c_X8_isSlot l D cy N0 h p0) kX8_isSlot g1246 g1247 hP hS (by first | decide | omega) hl.1 rfl (by simp [q_catrf, q_cati, q_catl, q_cata, q_catn]) (by first | decide | omega) dX8_same_2 (fun q ce E h' H1 locs1 hE => hE.elim) (fun v hh1 H locs hq hP hS => ?_)
  obtain ⟨rfl, ⟨rfl, sl9⟩ | ⟨rfl, sl9⟩⟩ := hq
  · obtain ⟨i, hi, rfl⟩ := sl9.of
    have ebi : bSl (nI i) = true := bSl_t sl9
    have eci : (nI i).toNatClampNeg = i := nI_clamp (by omega)
    refine lv_if_eq (tgt := 19) hx hb dX8_same_5 (by decide) (fun c5 => ?_) (fun c5 => ?_)
    · replace c5 : 1 = 0 := (nI_eq (a := 1) (b := 0) (by omega) (by omega)).mp c5
      exfalso; omega
    · replace c5 : ¬ 1 = 0 := fun zq => c5 ((nI_eq (a := 1) (b := 0) (by omega) (by omega)).mpr zq)
      refine lv_iload_n hx hb dX8_same_8 rfl (lv_at hl 2 rfl) ?_
      refine q_callS (rest := [.ref y]) C (c_X8_isSlot l D cy N0 h p1) kX8_isSlot g1246 g1247 hP hS (by first | decide | omega) hl.1 rfl (by simp [q_catrf, q_cati, q_catl, q_cata, q_catn]) (by first | decide | omega) dX8_same_9 (fun q ce E h' H1 locs1 hE => hE.elim) (fun v hh2 H locs hq hP hS => ?_)
      obtain ⟨rfl, ⟨rfl, sl9⟩ | ⟨rfl, sl9⟩⟩ := hq
      · obtain ⟨j, hj, rfl⟩ := sl9.of
        have ebj : bSl (nI j) = true := bSl_t sl9
        have ecj : (nI j).toNatClampNeg = j := nI_clamp (by omega)
        refine lv_if_eq (tgt := 19) hx hb dX8_same_12 (by decide) (fun c12 => ?_) (fun c12 => ?_)
        · replace c12 : 1 = 0 := (nI_eq (a := 1) (b := 0) (by omega) (by omega)).mp c12
          exfalso; omega
        · replace c12 : ¬ 1 = 0 := fun zq => c12 ((nI_eq (a := 1) (b := 0) (by omega) (by omega)).mpr zq)
          refine lv_iconst (v := nI 1) hx hb dX8_same_15 (by decide) ?_
          refine lv_goto (tgt := 20) hx hb dX8_same_16 (by decide) ?_
          refine lv_iconst (v := nI 1) hx hb dX8_same_20 (by decide) ?_
          refine q_callV (rest := []) C (c_X8_good1 l D cy N0 h y ms mb (ra 28) od pt fi re rc rs so ot cn la ro gr cd ca (nI m0) ct fau cs ce rn (nI 1) hY) kX8_good g1249 g1251 rfl gp41 g4 hP hS hY (by first | decide | omega) hl.1 rfl (by decide) (by first | decide | omega) dX8_same_21 (fun q ce E h' H1 locs1 hE => hE.elim) (fun v hh3 H locs hq hP hS => ?_)
          obtain ⟨rfl, rfl⟩ := hq
          replace hP : qP D N0 (qs h y (.inr (8, [.ref ms, .ref mb, .ref (ra 28), .int gr, .int 0, .int ca, .int (nI m0), .ref od, .ref pt, .int ct, .int fau, .ref fi, .ref re, .int cs, .ref rc, .ref rs, .ref so, .ref ot, .ref cn, .ref la, .int ce, .ref ro, .int rn]))) H := hP
          obtain ⟨hv1, ehv1⟩ : ∃ z : qH, z = qs h y (.inr (8, [.ref ms, .ref mb, .ref (ra 28), .int gr, .int 0, .int ca, .int (nI m0), .ref od, .ref pt, .int ct, .int fau, .ref fi, .ref re, .int cs, .ref rc, .ref rs, .ref so, .ref ot, .ref cn, .ref la, .int ce, .ref ro, .int rn])) := ⟨_, rfl⟩
          rw [← ehv1] at hP
          have khv1 : ∀ b o, b ≠ y → h b = some o → hv1 b = some o := by rw [ehv1]; exact fun b o nb hb => (qs_ne nb).trans hb
          replace hms := khv1 _ _ (fun q => by subst q; have := hms.symm.trans hY; first | cases this | simp at this) hms
          replace hmb := khv1 _ _ (fun q => by subst q; have := hmb.symm.trans hY; first | cases this | simp at this) hmb
          replace faw := khv1 _ _ (fun q => by have z9 := faw; rw [q] at z9; have := z9.symm.trans hY; first | cases this | simp at this) faw
          replace fkw := khv1 _ _ (fun q => by have z9 := fkw; rw [q] at z9; have := z9.symm.trans hY; first | cases this | simp at this) fkw
          replace fvw := khv1 _ _ (fun q => by have z9 := fvw; rw [q] at z9; have := z9.symm.trans hY; first | cases this | simp at this) fvw
          replace hY : hv1 y = some (.inr (8, [.ref ms, .ref mb, .ref (ra 28), .int gr, .int 0, .int ca, .int (nI m0), .ref od, .ref pt, .int ct, .int fau, .ref fi, .ref re, .int cs, .ref rc, .ref rs, .ref so, .ref ot, .ref cn, .ref la, .int ce, .ref ro, .int rn])) := by rw [ehv1]; exact qs_self
          clear ehv1
          replace fr := fun b o hb n1 n2 => khv1 b o n1 (fr b o hb n1 n2)
          refine lv_if_eq (tgt := 71) hx hb dX8_same_24 (by decide) (fun c24 => ?_) (fun c24 => ?_)
          · replace c24 : 1 = 0 := (nI_eq (a := 1) (b := 0) (by omega) (by omega)).mp c24
            exfalso; omega
          · replace c24 : ¬ 1 = 0 := fun zq => c24 ((nI_eq (a := 1) (b := 0) (by omega) (by omega)).mpr zq)
            refine lv_aload_n hx hb dX8_same_27 rfl (lv_at hl 0 rfl) ?_
            refine lv_aload_n hx hb dX8_same_28 rfl (lv_at hl 0 rfl) ?_
            refine lv_iload_n hx hb dX8_same_29 rfl (lv_at hl 1 rfl) ?_
            refine lv_bipush (v := nI 63) hx hb dX8_same_30 (by decide) ?_
            obtain ⟨ni, rwi, Fi, Gi, hRi, hni, hLi, hKi⟩ := hrs i (by omega)
            have api := hRi.apart hRw (hmd.two (i := i) (j := 28) (by omega) (by omega) (by omega))
            replace hRi := hRi.keep2 (fun b o hb ho => fr b o ho (hRi.ney hY0 hb) (hb.elim (fun q => q ▸ api.1) (fun hb => hb.elim (fun q => q ▸ api.2.1) (fun q => q ▸ api.2.2))))
            have fai := hRi.2.2.2.1
            have fki := hRi.2.2.2.2.1
            have fvi := hRi.2.2.2.2.2
            unfold qRb at fai
            unfold qJr at fki fvi
            refine q_callV (rest := [.ref y]) C (c_X8_holds l D cy N0 hv1 y ms ra rk rv i 63 _ _ _ _ _ _ _ _ hY rfl hms ⟨hRi.1, hRi.2.1, hRi.2.2.1, fai, fki, fvi⟩ (by omega)) kX8_holds g1264 g1266 rfl gp42 g4 hP hS hY (by first | decide | omega) hl.1 rfl (by simp [q_catrf, q_cati, q_catl, q_cata, q_catn]) (by first | decide | omega) dX8_same_32 (fun q ce E h' H1 locs1 hE => hE.elim) (fun v hh4 H locs hq hP hS => ?_)
            obtain ⟨rfl, rfl⟩ := hq
            cases hoi : bHo (S i).1 63 with
            | false =>
              refine lv_if_eq (tgt := 63) hx hb dX8_same_35 (by decide) (fun c35 => ?_) (fun c35 => ?_)
              · replace c35 : 0 = 0 := (nI_eq (a := 0) (b := 0) (by omega) (by omega)).mp c35
                refine lv_iconst (v := nI 0) hx hb dX8_same_63 (by decide) ?_
                refine lv_iconst (v := nI 2) hx hb dX8_same_64 (by decide) ?_
                refine q_callV (rest := []) C (c_X8_good0 l D cy N0 hv1 y ms mb (ra 28) od pt fi re rc rs so ot cn la ro gr 0 ca (nI m0) ct fau cs ce rn (nI 2) hY) kX8_good g1249 g1251 rfl gp41 g4 hP hS hY (by first | decide | omega) hl.1 rfl (by decide) (by first | decide | omega) dX8_same_65 (fun q ce E h' H1 locs1 hE => hE.elim) (fun v hh5 H locs hq hP hS => ?_)
                obtain ⟨rfl, rfl⟩ := hq
                replace hP : qP D N0 (qs hv1 y (.inr (8, [.ref ms, .ref mb, .ref (ra 28), .int gr, .int (nI 2), .int ca, .int (nI m0), .ref od, .ref pt, .int ct, .int fau, .ref fi, .ref re, .int cs, .ref rc, .ref rs, .ref so, .ref ot, .ref cn, .ref la, .int ce, .ref ro, .int rn]))) H := hP
                obtain ⟨hv2, ehv2⟩ : ∃ z : qH, z = qs hv1 y (.inr (8, [.ref ms, .ref mb, .ref (ra 28), .int gr, .int (nI 2), .int ca, .int (nI m0), .ref od, .ref pt, .int ct, .int fau, .ref fi, .ref re, .int cs, .ref rc, .ref rs, .ref so, .ref ot, .ref cn, .ref la, .int ce, .ref ro, .int rn])) := ⟨_, rfl⟩
                rw [← ehv2] at hP
                have khv2 : ∀ b o, b ≠ y → hv1 b = some o → hv2 b = some o := by rw [ehv2]; exact fun b o nb hb => (qs_ne nb).trans hb
                replace hms := khv2 _ _ (fun q => by subst q; have := hms.symm.trans hY; first | cases this | simp at this) hms
                replace hmb := khv2 _ _ (fun q => by subst q; have := hmb.symm.trans hY; first | cases this | simp at this) hmb
                replace faw := khv2 _ _ (fun q => by have z9 := faw; rw [q] at z9; have := z9.symm.trans hY; first | cases this | simp at this) faw
                replace fkw := khv2 _ _ (fun q => by have z9 := fkw; rw [q] at z9; have := z9.symm.trans hY; first | cases this | simp at this) fkw
                replace fvw := khv2 _ _ (fun q => by have z9 := fvw; rw [q] at z9; have := z9.symm.trans hY; first | cases this | simp at this) fvw
                replace fai := khv2 _ _ (fun q => by have z9 := fai; rw [q] at z9; have := z9.symm.trans hY; first | cases this | simp at this) fai
                replace fki := khv2 _ _ (fun q => by have z9 := fki; rw [q] at z9; have := z9.symm.trans hY; first | cases this | simp at this) fki
                replace fvi := khv2 _ _ (fun q => by have z9 := fvi; rw [q] at z9; have := z9.symm.trans hY; first | cases this | simp at this) fvi
                replace hY : hv2 y = some (.inr (8, [.ref ms, .ref mb, .ref (ra 28), .int gr, .int (nI 2), .int ca, .int (nI m0), .ref od, .ref pt, .int ct, .int fau, .ref fi, .ref re, .int cs, .ref rc, .ref rs, .ref so, .ref ot, .ref cn, .ref la, .int ce, .ref ro, .int rn])) := by rw [ehv2]; exact qs_self
                clear ehv2
                replace fr := fun b o hb n1 n2 => khv2 b o n1 (fr b o hb n1 n2)
                refine lv_if_ne (tgt := 73) hx hb dX8_same_68 (by decide) (fun c68 => ?_) (fun c68 => ?_)
                · replace c68 : ¬ 0 = 0 := fun zq => c68 ((nI_eq (a := 0) (b := 0) (by omega) (by omega)).mpr zq)
                  exfalso; omega
                · replace c68 : 0 = 0 := (nI_eq (a := 0) (b := 0) (by omega) (by omega)).mp c68
                  refine lv_iconst (v := nI 0) hx hb dX8_same_71 (by decide) ?_
                  have ex : xs_same S (nI i) (nI j) m0 = (2, 0, m0) := by (unfold xs_same; rw [if_neg (by simp [ebi, ebj]), eci, ecj, if_pos (by first | exact Or.inl hoi | exact Or.inr c56)])
                  obtain ⟨m9, f9⟩ := hM.fin0 hY0 (h' := hv2) ⟨hRw.1, hRw.2.1, hRw.2.2.1, faw, fkw, fvw⟩ fr
                  exact q_zret C hP hS (Or.inl rfl) ⟨by first | (rw [ex]; done) | (rw [ex]; rfl), by rw [ex]; exact hY, m9, f9⟩ (by omega) dX8_same_72
              · replace c35 : ¬ 0 = 0 := fun zq => c35 ((nI_eq (a := 0) (b := 0) (by omega) (by omega)).mpr zq)
                exfalso; omega
            | true =>
              refine lv_if_eq (tgt := 63) hx hb dX8_same_35 (by decide) (fun c35 => ?_) (fun c35 => ?_)
              · replace c35 : 1 = 0 := (nI_eq (a := 1) (b := 0) (by omega) (by omega)).mp c35
                exfalso; omega
              · replace c35 : ¬ 1 = 0 := fun zq => c35 ((nI_eq (a := 1) (b := 0) (by omega) (by omega)).mpr zq)
                refine lv_aload_n hx hb dX8_same_38 rfl (lv_at hl 0 rfl) ?_
                refine q_get C hP hY rfl inX8 0 (by decide) g1167 rfl dX8_same_39 ?_
                refine lv_iload_n hx hb dX8_same_42 rfl (lv_at hl 1 rfl) ?_
                refine q_aaldR C hP hms rfl (by omega) (by omega) rfl dX8_same_43 ?_
                refine q_get C hP fai rfl inX7 2 (by decide) g1142 rfl dX8_same_44 ?_
                refine lv_aload_n hx hb dX8_same_47 rfl (lv_at hl 0 rfl) ?_
                refine q_get C hP hY rfl inX8 0 (by decide) g1167 rfl dX8_same_48 ?_
                refine lv_iload_n hx hb dX8_same_51 rfl (lv_at hl 2 rfl) ?_
                refine q_aaldR C hP hms rfl (by omega) (by omega) rfl dX8_same_52 ?_
                obtain ⟨nj, rwj, Fj, Gj, hRj, hnj, hLj, hKj⟩ := hrs j (by omega)
                have apj := hRj.apart hRw (hmd.two (i := j) (j := 28) (by omega) (by omega) (by omega))
                replace hRj := hRj.keep2 (fun b o hb ho => fr b o ho (hRj.ney hY0 hb) (hb.elim (fun q => q ▸ apj.1) (fun hb => hb.elim (fun q => q ▸ apj.2.1) (fun q => q ▸ apj.2.2))))
                have faj := hRj.2.2.2.1
                have fkj := hRj.2.2.2.2.1
                have fvj := hRj.2.2.2.2.2
                unfold qRb at faj
                unfold qJr at fkj fvj
                refine q_get C hP faj rfl inX7 2 (by decide) g1142 rfl dX8_same_53 ?_
                refine lv_icmp_ne (tgt := 63) hx hb dX8_same_56 (by decide) (fun c56 => ?_) (fun c56 => ?_)
                · refine lv_iconst (v := nI 0) hx hb dX8_same_63 (by decide) ?_
                  refine lv_iconst (v := nI 2) hx hb dX8_same_64 (by decide) ?_
                  refine q_callV (rest := []) C (c_X8_good0 l D cy N0 hv1 y ms mb (ra 28) od pt fi re rc rs so ot cn la ro gr 0 ca (nI m0) ct fau cs ce rn (nI 2) hY) kX8_good g1249 g1251 rfl gp41 g4 hP hS hY (by first | decide | omega) hl.1 rfl (by decide) (by first | decide | omega) dX8_same_65 (fun q ce E h' H1 locs1 hE => hE.elim) (fun v hh6 H locs hq hP hS => ?_)
                  obtain ⟨rfl, rfl⟩ := hq
                  replace hP : qP D N0 (qs hv1 y (.inr (8, [.ref ms, .ref mb, .ref (ra 28), .int gr, .int (nI 2), .int ca, .int (nI m0), .ref od, .ref pt, .int ct, .int fau, .ref fi, .ref re, .int cs, .ref rc, .ref rs, .ref so, .ref ot, .ref cn, .ref la, .int ce, .ref ro, .int rn]))) H := hP
                  obtain ⟨hv3, ehv3⟩ : ∃ z : qH, z = qs hv1 y (.inr (8, [.ref ms, .ref mb, .ref (ra 28), .int gr, .int (nI 2), .int ca, .int (nI m0), .ref od, .ref pt, .int ct, .int fau, .ref fi, .ref re, .int cs, .ref rc, .ref rs, .ref so, .ref ot, .ref cn, .ref la, .int ce, .ref ro, .int rn])) := ⟨_, rfl⟩
                  rw [← ehv3] at hP
                  have khv3 : ∀ b o, b ≠ y → hv1 b = some o → hv3 b = some o := by rw [ehv3]; exact fun b o nb hb => (qs_ne nb).trans hb
                  replace hms := khv3 _ _ (fun q => by subst q; have := hms.symm.trans hY; first | cases this | simp at this) hms
                  replace hmb := khv3 _ _ (fun q => by subst q; have := hmb.symm.trans hY; first | cases this | simp at this) hmb
                  replace faw := khv3 _ _ (fun q => by have z9 := faw; rw [q] at z9; have := z9.symm.trans hY; first | cases this | simp at this) faw
                  replace fkw := khv3 _ _ (fun q => by have z9 := fkw; rw [q] at z9; have := z9.symm.trans hY; first | cases this | simp at this) fkw
                  replace fvw := khv3 _ _ (fun q => by have z9 := fvw; rw [q] at z9; have := z9.symm.trans hY; first | cases this | simp at this) fvw
                  replace fai := khv3 _ _ (fun q => by have z9 := fai; rw [q] at z9; have := z9.symm.trans hY; first | cases this | simp at this) fai
                  replace fki := khv3 _ _ (fun q => by have z9 := fki; rw [q] at z9; have := z9.symm.trans hY; first | cases this | simp at this) fki
                  replace fvi := khv3 _ _ (fun q => by have z9 := fvi; rw [q] at z9; have := z9.symm.trans hY; first | cases this | simp at this) fvi
                  replace faj := khv3 _ _ (fun q => by have z9 := faj; rw [q] at z9; have := z9.symm.trans hY; first | cases this | simp at this) faj
                  replace fkj := khv3 _ _ (fun q => by have z9 := fkj; rw [q] at z9; have := z9.symm.trans hY; first | cases this | simp at this) fkj
                  replace fvj := khv3 _ _ (fun q => by have z9 := fvj; rw [q] at z9; have := z9.symm.trans hY; first | cases this | simp at this) fvj
                  replace hY : hv3 y = some (.inr (8, [.ref ms, .ref mb, .ref (ra 28), .int gr, .int (nI 2), .int ca, .int (nI m0), .ref od, .ref pt, .int ct, .int fau, .ref fi, .ref re, .int cs, .ref rc, .ref rs, .ref so, .ref ot, .ref cn, .ref la, .int ce, .ref ro, .int rn])) := by rw [ehv3]; exact qs_self
                  clear ehv3
                  replace fr := fun b o hb n1 n2 => khv3 b o n1 (fr b o hb n1 n2)
                  refine lv_if_ne (tgt := 73) hx hb dX8_same_68 (by decide) (fun c68 => ?_) (fun c68 => ?_)
                  · replace c68 : ¬ 0 = 0 := fun zq => c68 ((nI_eq (a := 0) (b := 0) (by omega) (by omega)).mpr zq)
                    exfalso; omega
                  · replace c68 : 0 = 0 := (nI_eq (a := 0) (b := 0) (by omega) (by omega)).mp c68
                    refine lv_iconst (v := nI 0) hx hb dX8_same_71 (by decide) ?_
                    have ex : xs_same S (nI i) (nI j) m0 = (2, 0, m0) := by (unfold xs_same; rw [if_neg (by simp [ebi, ebj]), eci, ecj, if_pos (by first | exact Or.inl hoi | exact Or.inr c56)])
                    obtain ⟨m9, f9⟩ := hM.fin0 hY0 (h' := hv3) ⟨hRw.1, hRw.2.1, hRw.2.2.1, faw, fkw, fvw⟩ fr
                    exact q_zret C hP hS (Or.inl rfl) ⟨by first | (rw [ex]; done) | (rw [ex]; rfl), by rw [ex]; exact hY, m9, f9⟩ (by omega) dX8_same_72
                · refine lv_iconst (v := nI 1) hx hb dX8_same_59 (by decide) ?_
                  refine lv_goto (tgt := 64) hx hb dX8_same_60 (by decide) ?_
                  refine lv_iconst (v := nI 2) hx hb dX8_same_64 (by decide) ?_
                  refine q_callV (rest := []) C (c_X8_good1 l D cy N0 hv1 y ms mb (ra 28) od pt fi re rc rs so ot cn la ro gr 0 ca (nI m0) ct fau cs ce rn (nI 2) hY) kX8_good g1249 g1251 rfl gp41 g4 hP hS hY (by first | decide | omega) hl.1 rfl (by decide) (by first | decide | omega) dX8_same_65 (fun q ce E h' H1 locs1 hE => hE.elim) (fun v hh7 H locs hq hP hS => ?_)
                  obtain ⟨rfl, rfl⟩ := hq
                  replace hP : qP D N0 (qs hv1 y (.inr (8, [.ref ms, .ref mb, .ref (ra 28), .int gr, .int 0, .int ca, .int (nI m0), .ref od, .ref pt, .int ct, .int fau, .ref fi, .ref re, .int cs, .ref rc, .ref rs, .ref so, .ref ot, .ref cn, .ref la, .int ce, .ref ro, .int rn]))) H := hP
                  obtain ⟨hv4, ehv4⟩ : ∃ z : qH, z = qs hv1 y (.inr (8, [.ref ms, .ref mb, .ref (ra 28), .int gr, .int 0, .int ca, .int (nI m0), .ref od, .ref pt, .int ct, .int fau, .ref fi, .ref re, .int cs, .ref rc, .ref rs, .ref so, .ref ot, .ref cn, .ref la, .int ce, .ref ro, .int rn])) := ⟨_, rfl⟩
                  rw [← ehv4] at hP
                  have khv4 : ∀ b o, b ≠ y → hv1 b = some o → hv4 b = some o := by rw [ehv4]; exact fun b o nb hb => (qs_ne nb).trans hb
                  replace hms := khv4 _ _ (fun q => by subst q; have := hms.symm.trans hY; first | cases this | simp at this) hms
                  replace hmb := khv4 _ _ (fun q => by subst q; have := hmb.symm.trans hY; first | cases this | simp at this) hmb
                  replace faw := khv4 _ _ (fun q => by have z9 := faw; rw [q] at z9; have := z9.symm.trans hY; first | cases this | simp at this) faw
                  replace fkw := khv4 _ _ (fun q => by have z9 := fkw; rw [q] at z9; have := z9.symm.trans hY; first | cases this | simp at this) fkw
                  replace fvw := khv4 _ _ (fun q => by have z9 := fvw; rw [q] at z9; have := z9.symm.trans hY; first | cases this | simp at this) fvw
                  replace fai := khv4 _ _ (fun q => by have z9 := fai; rw [q] at z9; have := z9.symm.trans hY; first | cases this | simp at this) fai
                  replace fki := khv4 _ _ (fun q => by have z9 := fki; rw [q] at z9; have := z9.symm.trans hY; first | cases this | simp at this) fki
                  replace fvi := khv4 _ _ (fun q => by have z9 := fvi; rw [q] at z9; have := z9.symm.trans hY; first | cases this | simp at this) fvi
                  replace faj := khv4 _ _ (fun q => by have z9 := faj; rw [q] at z9; have := z9.symm.trans hY; first | cases this | simp at this) faj
                  replace fkj := khv4 _ _ (fun q => by have z9 := fkj; rw [q] at z9; have := z9.symm.trans hY; first | cases this | simp at this) fkj
                  replace fvj := khv4 _ _ (fun q => by have z9 := fvj; rw [q] at z9; have := z9.symm.trans hY; first | cases this | simp at this) fvj
                  replace hY : hv4 y = some (.inr (8, [.ref ms, .ref mb, .ref (ra 28), .int gr, .int 0, .int ca, .int (nI m0), .ref od, .ref pt, .int ct, .int fau, .ref fi, .ref re, .int cs, .ref rc, .ref rs, .ref so, .ref ot, .ref cn, .ref la, .int ce, .ref ro, .int rn])) := by rw [ehv4]; exact qs_self
                  clear ehv4
                  replace fr := fun b o hb n1 n2 => khv4 b o n1 (fr b o hb n1 n2)
                  refine lv_if_ne (tgt := 73) hx hb dX8_same_68 (by decide) (fun c68 => ?_) (fun c68 => ?_)
                  · replace c68 : ¬ 1 = 0 := fun zq => c68 ((nI_eq (a := 1) (b := 0) (by omega) (by omega)).mpr zq)
                    refine lv_aload_n hx hb dX8_same_73 rfl (lv_at hl 0 rfl) ?_
                    refine q_get C hP hY rfl inX8 0 (by decide) g1167 rfl dX8_same_74 ?_
                    refine lv_iload_n hx hb dX8_same_77 rfl (lv_at hl 1 rfl) ?_
                    refine q_aaldR C hP hms rfl (by omega) (by omega) rfl dX8_same_78 ?_
                    refine lv_astore_n (lv' := [(3, .ref (ra i)), (0, .ref y), (1, .int (nI i)), (2, .int (nI j))]) hx hb dX8_same_79 rfl hl (by decide) rfl (fun ls hl => ?_)
                    refine lv_aload_n hx hb dX8_same_80 rfl (lv_at hl 1 rfl) ?_
                    refine q_get C hP hY rfl inX8 0 (by decide) g1167 rfl dX8_same_81 ?_
                    refine lv_iload_n hx hb dX8_same_84 rfl (lv_at hl 3 rfl) ?_
                    refine q_aaldR C hP hms rfl (by omega) (by omega) rfl dX8_same_85 ?_
                    refine lv_astore (lv' := [(4, .ref (ra j)), (3, .ref (ra i)), (0, .ref y), (1, .int (nI i)), (2, .int (nI j))]) hx hb dX8_same_86 hl (by decide) rfl (fun ls hl => ?_)
                    refine lv_aload_n hx hb dX8_same_88 rfl (lv_at hl 2 rfl) ?_
                    refine lv_aload_n hx hb dX8_same_89 rfl (lv_at hl 2 rfl) ?_
                    refine lv_iconst (v := nI 0) hx hb dX8_same_90 (by decide) ?_
                    refine lv_aload_n hx hb dX8_same_91 rfl (lv_at hl 1 rfl) ?_
                    refine q_get C hP fai rfl inX7 3 (by decide) g1143 rfl dX8_same_92 ?_
                    refine lv_aload hx hb dX8_same_95 (lv_at hl 0 rfl) ?_
                    refine q_get C hP faj rfl inX7 3 (by decide) g1143 rfl dX8_same_97 ?_
                    refine q_iaddN hx hb dX8_same_100 ?_
                    refine q_callV (rest := [.ref y]) C (c_X8_fits l D cy N0 hv4 y m0 0 (ni + nj) _ hY rfl (by omega) (by omega)) kX8_fits g1413 g1415 rfl gp61 g4 hP hS hY (by first | decide | omega) hl.1 rfl (by simp [q_catrf, q_cati, q_catl, q_cata, q_catn]) (by first | decide | omega) dX8_same_101 (fun q ce E h' H1 locs1 hE => hE.elim) (fun v hh8 H locs hq hP hS => ?_)
                    obtain ⟨rfl, rfl⟩ := hq
                    by_cases cf : 0 ≤ 1000 ∧ m0 + (ni + nj) ≤ 20000
                    · rw [if_pos cf]
                      refine lv_iconst (v := nI 3) hx hb dX8_same_104 (by decide) ?_
                      refine q_callV (rest := []) C (c_X8_good1 l D cy N0 hv4 y ms mb (ra 28) od pt fi re rc rs so ot cn la ro gr 0 ca (nI m0) ct fau cs ce rn (nI 3) hY) kX8_good g1249 g1251 rfl gp41 g4 hP hS hY (by first | decide | omega) hl.1 rfl (by decide) (by first | decide | omega) dX8_same_105 (fun q ce E h' H1 locs1 hE => hE.elim) (fun v hh9 H locs hq hP hS => ?_)
                      obtain ⟨rfl, rfl⟩ := hq
                      replace hP : qP D N0 (qs hv4 y (.inr (8, [.ref ms, .ref mb, .ref (ra 28), .int gr, .int 0, .int ca, .int (nI m0), .ref od, .ref pt, .int ct, .int fau, .ref fi, .ref re, .int cs, .ref rc, .ref rs, .ref so, .ref ot, .ref cn, .ref la, .int ce, .ref ro, .int rn]))) H := hP
                      obtain ⟨hv5, ehv5⟩ : ∃ z : qH, z = qs hv4 y (.inr (8, [.ref ms, .ref mb, .ref (ra 28), .int gr, .int 0, .int ca, .int (nI m0), .ref od, .ref pt, .int ct, .int fau, .ref fi, .ref re, .int cs, .ref rc, .ref rs, .ref so, .ref ot, .ref cn, .ref la, .int ce, .ref ro, .int rn])) := ⟨_, rfl⟩
                      rw [← ehv5] at hP
                      have khv5 : ∀ b o, b ≠ y → hv4 b = some o → hv5 b = some o := by rw [ehv5]; exact fun b o nb hb => (qs_ne nb).trans hb
                      replace hms := khv5 _ _ (fun q => by subst q; have := hms.symm.trans hY; first | cases this | simp at this) hms
                      replace hmb := khv5 _ _ (fun q => by subst q; have := hmb.symm.trans hY; first | cases this | simp at this) hmb
                      replace faw := khv5 _ _ (fun q => by have z9 := faw; rw [q] at z9; have := z9.symm.trans hY; first | cases this | simp at this) faw
                      replace fkw := khv5 _ _ (fun q => by have z9 := fkw; rw [q] at z9; have := z9.symm.trans hY; first | cases this | simp at this) fkw
                      replace fvw := khv5 _ _ (fun q => by have z9 := fvw; rw [q] at z9; have := z9.symm.trans hY; first | cases this | simp at this) fvw
                      replace fai := khv5 _ _ (fun q => by have z9 := fai; rw [q] at z9; have := z9.symm.trans hY; first | cases this | simp at this) fai
                      replace fki := khv5 _ _ (fun q => by have z9 := fki; rw [q] at z9; have := z9.symm.trans hY; first | cases this | simp at this) fki
                      replace fvi := khv5 _ _ (fun q => by have z9 := fvi; rw [q] at z9; have := z9.symm.trans hY; first | cases this | simp at this) fvi
                      replace faj := khv5 _ _ (fun q => by have z9 := faj; rw [q] at z9; have := z9.symm.trans hY; first | cases this | simp at this) faj
                      replace fkj := khv5 _ _ (fun q => by have z9 := fkj; rw [q] at z9; have := z9.symm.trans hY; first | cases this | simp at this) fkj
                      replace fvj := khv5 _ _ (fun q => by have z9 := fvj; rw [q] at z9; have := z9.symm.trans hY; first | cases this | simp at this) fvj
                      replace hY : hv5 y = some (.inr (8, [.ref ms, .ref mb, .ref (ra 28), .int gr, .int 0, .int ca, .int (nI m0), .ref od, .ref pt, .int ct, .int fau, .ref fi, .ref re, .int cs, .ref rc, .ref rs, .ref so, .ref ot, .ref cn, .ref la, .int ce, .ref ro, .int rn])) := by rw [ehv5]; exact qs_self
                      clear ehv5
                      replace fr := fun b o hb n1 n2 => khv5 b o n1 (fr b o hb n1 n2)
                      refine lv_if_ne (tgt := 113) hx hb dX8_same_108 (by decide) (fun c108 => ?_) (fun c108 => ?_)
                      · replace c108 : ¬ 1 = 0 := fun zq => c108 ((nI_eq (a := 1) (b := 0) (by omega) (by omega)).mpr zq)
                        refine lv_aload_n hx hb dX8_same_113 rfl (lv_at hl 2 rfl) ?_
                        refine lv_dup hx hb dX8_same_114 rfl ?_
                        refine q_get C hP hY rfl inX8 6 (by decide) g1173 rfl dX8_same_115 ?_
                        refine lv_aload_n hx hb dX8_same_118 rfl (lv_at hl 1 rfl) ?_
                        refine q_get C hP fai rfl inX7 3 (by decide) g1143 rfl dX8_same_119 ?_
                        refine lv_aload hx hb dX8_same_122 (lv_at hl 0 rfl) ?_
                        refine q_get C hP faj rfl inX7 3 (by decide) g1143 rfl dX8_same_124 ?_
                        refine q_iaddN hx hb dX8_same_127 ?_
                        refine q_iaddN hx hb dX8_same_128 ?_
                        refine q_put C hP hS hY rfl inX8 tyX8 tyX8_ok nmX8 6 (by decide) g1173 rfl rfl rfl (Nat.le_of_ble_eq_true rfl) dX8_same_129 (fun H locs hP hS => ?_)
                        replace hP : qP D N0 (qs hv5 y (.inr (8, [.ref ms, .ref mb, .ref (ra 28), .int gr, .int 0, .int ca, .int (nI (m0 + (ni + nj))), .ref od, .ref pt, .int ct, .int fau, .ref fi, .ref re, .int cs, .ref rc, .ref rs, .ref so, .ref ot, .ref cn, .ref la, .int ce, .ref ro, .int rn]))) H := hP
                        obtain ⟨hv6, ehv6⟩ : ∃ z : qH, z = qs hv5 y (.inr (8, [.ref ms, .ref mb, .ref (ra 28), .int gr, .int 0, .int ca, .int (nI (m0 + (ni + nj))), .ref od, .ref pt, .int ct, .int fau, .ref fi, .ref re, .int cs, .ref rc, .ref rs, .ref so, .ref ot, .ref cn, .ref la, .int ce, .ref ro, .int rn])) := ⟨_, rfl⟩
                        rw [← ehv6] at hP
                        have khv6 : ∀ b o, b ≠ y → hv5 b = some o → hv6 b = some o := by rw [ehv6]; exact fun b o nb hb => (qs_ne nb).trans hb
                        replace hms := khv6 _ _ (fun q => by subst q; have := hms.symm.trans hY; first | cases this | simp at this) hms
                        replace hmb := khv6 _ _ (fun q => by subst q; have := hmb.symm.trans hY; first | cases this | simp at this) hmb
                        replace faw := khv6 _ _ (fun q => by have z9 := faw; rw [q] at z9; have := z9.symm.trans hY; first | cases this | simp at this) faw
                        replace fkw := khv6 _ _ (fun q => by have z9 := fkw; rw [q] at z9; have := z9.symm.trans hY; first | cases this | simp at this) fkw
                        replace fvw := khv6 _ _ (fun q => by have z9 := fvw; rw [q] at z9; have := z9.symm.trans hY; first | cases this | simp at this) fvw
                        replace fai := khv6 _ _ (fun q => by have z9 := fai; rw [q] at z9; have := z9.symm.trans hY; first | cases this | simp at this) fai
                        replace fki := khv6 _ _ (fun q => by have z9 := fki; rw [q] at z9; have := z9.symm.trans hY; first | cases this | simp at this) fki
                        replace fvi := khv6 _ _ (fun q => by have z9 := fvi; rw [q] at z9; have := z9.symm.trans hY; first | cases this | simp at this) fvi
                        replace faj := khv6 _ _ (fun q => by have z9 := faj; rw [q] at z9; have := z9.symm.trans hY; first | cases this | simp at this) faj
                        replace fkj := khv6 _ _ (fun q => by have z9 := fkj; rw [q] at z9; have := z9.symm.trans hY; first | cases this | simp at this) fkj
                        replace fvj := khv6 _ _ (fun q => by have z9 := fvj; rw [q] at z9; have := z9.symm.trans hY; first | cases this | simp at this) fvj
                        replace hY : hv6 y = some (.inr (8, [.ref ms, .ref mb, .ref (ra 28), .int gr, .int 0, .int ca, .int (nI (m0 + (ni + nj))), .ref od, .ref pt, .int ct, .int fau, .ref fi, .ref re, .int cs, .ref rc, .ref rs, .ref so, .ref ot, .ref cn, .ref la, .int ce, .ref ro, .int rn])) := by rw [ehv6]; exact qs_self
                        clear ehv6
                        replace fr := fun b o hb n1 n2 => khv6 b o n1 (fr b o hb n1 n2)
                        refine lv_aload_n hx hb dX8_same_132 rfl (lv_at hl 1 rfl) ?_
                        refine q_get C hP fai rfl inX7 3 (by decide) g1143 rfl dX8_same_133 ?_
                        refine lv_aload hx hb dX8_same_136 (lv_at hl 0 rfl) ?_
                        refine q_get C hP faj rfl inX7 3 (by decide) g1143 rfl dX8_same_138 ?_
                        refine lv_icmp_eq (tgt := 146) hx hb dX8_same_141 (by decide) (fun c141 => ?_) (fun c141 => ?_)
                        · replace c141 : ni = nj := (nI_eq (a := ni) (b := nj) (by omega) (by omega)).mp c141
                          refine lv_iconst (v := nI 0) hx hb dX8_same_146 (by decide) ?_
                          refine lv_istore (lv' := [(5, .int (nI 0)), (4, .ref (ra j)), (3, .ref (ra i)), (0, .ref y), (1, .int (nI i)), (2, .int (nI j))]) hx hb dX8_same_147 hl (by decide) rfl (fun ls hl => ?_)
                          have elj : ni = nj := by omega
                          have hkk : (S i).1 = (S j).1 := c56
                          by_cases hk1 : (S i).1 = 1
                          · refine (?_ : ∀ (t : Nat) (H : Heap) (locs : List Loc) (ls : Array Slot) (jj : Nat), ni - jj < t → lv_has ls 8 [(5, .int (nI jj)), (3, .ref (ra i)), (4, .ref (ra j)), (0, .ref y)] → jj ≤ ni → (∀ q, q < jj → xHas (S j).2.1 (Fi q) = true ∧ ((S i).1 = 1 → xLook (S j).2.1 (Fi q) = Gi q)) → qP D N0 hv6 H → va_S (qA N0) s.heap H locs → W p l e _ s m _ below meth c H locs 0 0 _ (F0 m 149 ls [])) _ H locs ls 0 (Nat.lt_succ_self _) (lv_sub hl [0, 2, 1, 3] rfl) (Nat.zero_le _) (fun q hq => absurd hq (Nat.not_lt_zero _)) hP hS
                            clear hl hP hS
                            intro t
                            induction t with
                            | zero => intro H locs ls jj ht; exact absurd ht (Nat.not_lt_zero _)
                            | succ t ihl =>
                              intro H locs ls jj ht hl hj kk hP hS
                              refine lv_iload hx hb dX8_same_149 (lv_at hl 0 rfl) ?_
                              refine lv_aload_n hx hb dX8_same_151 rfl (lv_at hl 1 rfl) ?_
                              refine q_get C hP fai rfl inX7 3 (by decide) g1143 rfl dX8_same_152 ?_
                              refine lv_icmp_ge (tgt := 274) hx hb dX8_same_155 (by decide) (fun c155 => ?_) (fun c155 => ?_)
                              · replace c155 : ni ≤ jj := (nI_leI (a := ni) (b := jj) (by omega) (by omega)).mp c155
                                refine lv_iconst (v := nI 1) hx hb dX8_same_274 (by decide) ?_
                                have exs : xSm (S i).1 (S i).2.1 (S j).2.1 = true := by rw [hLi]; exact xSm_h (Or.inl hk1) (by rw [hLj, qLs_len]; omega) (fun q hq => kk q (by omega))
                                have ex : xs_same S (nI i) (nI j) m0 = (0, 1, m0 + (ni + nj)) := by (unfold xs_same; rw [if_neg (by simp [ebi, ebj]), eci, ecj, if_neg (fun z => z.elim (fun z => by rw [hoi] at z; cases z) (fun z => z c56)), show (S i).2.1.length = ni from (by rw [hLi, qLs_len]), show (S j).2.1.length = nj from (by rw [hLj, qLs_len]), if_neg (by omega), if_pos exs])
                                obtain ⟨m9, f9⟩ := hM.fin0 hY0 (h' := hv6) ⟨hRw.1, hRw.2.1, hRw.2.2.1, faw, fkw, fvw⟩ fr
                                exact q_zret C hP hS (Or.inr rfl) ⟨by first | (rw [ex]; done) | (rw [ex]; rfl), by rw [ex]; exact hY, m9, f9⟩ (by omega) dX8_same_275
                              · replace c155 : ¬ ni ≤ jj := fun zq => c155 ((nI_leI (a := ni) (b := jj) (by omega) (by omega)).mpr zq)
                                refine lv_aload_n hx hb dX8_same_158 rfl (lv_at hl 1 rfl) ?_
                                refine q_get C hP fai rfl inX7 2 (by decide) g1142 rfl dX8_same_159 ?_
                                refine lv_iconst (v := 1) hx hb dX8_same_162 (by decide) ?_
                                refine lv_icmp_eq (tgt := 174) hx hb dX8_same_163 (by decide) (fun _ => ?_) (fun c => absurd hk1 c)
                                refine lv_iconst (v := nI 1) hx hb dX8_same_174 (by decide) ?_
                                refine lv_goto (tgt := 179) hx hb dX8_same_175 (by decide) ?_
                                refine lv_istore (lv' := [(6, .int (nI 1)), (5, .int (nI jj)), (3, .ref (ra i)), (4, .ref (ra j)), (0, .ref y)]) hx hb dX8_same_179 hl (by decide) rfl (fun ls hl => ?_)
                                refine lv_iload hx hb dX8_same_181 (lv_at hl 0 rfl) ?_
                                refine lv_if_eq (tgt := 201) hx hb dX8_same_183 (by decide) (fun c183 => ?_) (fun c183 => ?_)
                                · replace c183 : 1 = 0 := (nI_eq (a := 1) (b := 0) (by omega) (by omega)).mp c183
                                  exfalso; omega
                                · replace c183 : ¬ 1 = 0 := fun zq => c183 ((nI_eq (a := 1) (b := 0) (by omega) (by omega)).mpr zq)
                                  refine lv_aload hx hb dX8_same_186 (lv_at hl 3 rfl) ?_
                                  refine lv_aload_n hx hb dX8_same_188 rfl (lv_at hl 2 rfl) ?_
                                  refine q_get C hP fai rfl inX7 0 (by decide) g1138 rfl dX8_same_189 ?_
                                  refine lv_iload hx hb dX8_same_192 (lv_at hl 1 rfl) ?_
                                  refine q_laldN C hP fki (by omega) (by omega) dX8_same_194 ?_
                                  refine q_callS (rest := []) C (c_X8_find l D cy N0 hv6 (ra j) (rk j) (rv j) ((S j).1) (nI (S j).2.2.1) (nI (S j).2.2.2) rwj nj Fj Gj (Fi jj) ⟨hRj.1, hRj.2.1, hRj.2.2.1, faj, fkj, fvj⟩ (by omega)) kX8_find g1279 g1280 hP hS (by first | decide | omega) hl.1 rfl (by decide) (by first | decide | omega) dX8_same_195 (fun q ce E h' H1 locs1 hE => hE.elim) (fun v hh10 H locs hq hP hS => ?_)
                                  obtain ⟨rfl, hq⟩ := hq
                                  rcases hq with ⟨j8, rfl, hj8, e8, m8⟩ | ⟨rfl, m8⟩
                                  · have hx8 := xHas_t (kd := (S j).1) (g := Gj) hj8 e8
                                    rw [← hLj] at hx8
                                    refine lv_goto (tgt := 203) hx hb dX8_same_198 (by decide) ?_
                                    refine lv_istore (lv' := [(7, .int (nI j8)), (6, .int (nI 1)), (5, .int (nI jj)), (3, .ref (ra i)), (4, .ref (ra j)), (0, .ref y)]) hx hb dX8_same_203 hl (by decide) rfl (fun ls hl => ?_)
                                    refine lv_iload hx hb dX8_same_205 (lv_at hl 0 rfl) ?_
                                    refine lv_if_lt (tgt := 229) hx hb dX8_same_207 (by decide) (fun c207 => ?_) (fun c207 => ?_)
                                    · replace c207 : j8 < 0 := (nI_ltI (a := j8) (b := 0) (by omega) (by omega)).mp c207
                                      exfalso; omega
                                    · replace c207 : ¬ j8 < 0 := fun zq => c207 ((nI_ltI (a := j8) (b := 0) (by omega) (by omega)).mpr zq)
                                      refine lv_aload_n hx hb dX8_same_210 rfl (lv_at hl 3 rfl) ?_
                                      refine q_get C hP fai rfl inX7 0 (by decide) g1138 rfl dX8_same_211 ?_
                                      refine lv_iload hx hb dX8_same_214 (lv_at hl 2 rfl) ?_
                                      refine q_laldN C hP fki (by omega) (by omega) dX8_same_216 ?_
                                      refine lv_aload hx hb dX8_same_217 (lv_at hl 4 rfl) ?_
                                      refine q_get C hP faj rfl inX7 0 (by decide) g1138 rfl dX8_same_219 ?_
                                      refine lv_iload hx hb dX8_same_222 (lv_at hl 0 rfl) ?_
                                      refine q_laldN C hP fkj (by omega) (by omega) dX8_same_224 ?_
                                      refine W.lcmp hx hb dX8_same_225 ?_
                                      refine lv_if_eq (tgt := 231) hx hb dX8_same_226 (by decide) (fun _ => ?_) (fun c => absurd ((lg_cmp_eq _ _).mpr e8.symm) c)
                                      refine lv_aload_n hx hb dX8_same_231 rfl (lv_at hl 3 rfl) ?_
                                      refine q_get C hP fai rfl inX7 2 (by decide) g1142 rfl dX8_same_232 ?_
                                      refine lv_iconst (v := 1) hx hb dX8_same_235 (by decide) ?_
                                      refine lv_icmp_eq (tgt := 247) hx hb dX8_same_236 (by decide) (fun _ => ?_) (fun c => absurd hk1 c)
                                      refine lv_aload_n hx hb dX8_same_247 rfl (lv_at hl 3 rfl) ?_
                                      refine q_get C hP fai rfl inX7 1 (by decide) g1140 rfl dX8_same_248 ?_
                                      refine lv_iload hx hb dX8_same_251 (lv_at hl 2 rfl) ?_
                                      refine q_laldN C hP fvi (by omega) (by omega) dX8_same_253 ?_
                                      refine lv_aload hx hb dX8_same_254 (lv_at hl 4 rfl) ?_
                                      refine q_get C hP faj rfl inX7 1 (by decide) g1140 rfl dX8_same_256 ?_
                                      refine lv_iload hx hb dX8_same_259 (lv_at hl 0 rfl) ?_
                                      refine q_laldN C hP fvj (by omega) (by omega) dX8_same_261 ?_
                                      refine W.lcmp hx hb dX8_same_262 ?_
                                      refine lv_if_eq (tgt := 268) hx hb dX8_same_263 (by decide) (fun c263 => ?_) (fun c263 => ?_)
                                      · replace c263 : (Gi jj).toInt = (Gj j8).toInt := Int64.toInt_inj.symm.mp ((lg_cmp_eq _ _).mp c263)
                                        refine lv_iinc (v := nI (jj + 1)) (lv' := [(5, .int (nI (jj + 1))), (7, .int (nI j8)), (6, .int (nI 1)), (3, .ref (ra i)), (4, .ref (ra j)), (0, .ref y)]) hx hb dX8_same_268 hl (k := 2) rfl (nI_1 jj) (by decide) rfl (fun ls hl => ?_)
                                        refine lv_goto (tgt := 149) hx hb dX8_same_271 (by decide) ?_
                                        exact ihl H locs ls (jj + 1) (by omega) (lv_sub hl [0, 3, 4, 5] rfl) (by omega) (fun q hq => if e : q = jj then by (subst e; exact ⟨hx8, fun _ => by rw [hLj, xLook_row hj8 e8 m8, xV, if_pos (Or.inl (hkk ▸ hk1))]; exact (Int64.toInt_inj.mp c263).symm⟩) else kk q (by omega)) hP hS
                                      · replace c263 : ¬ (Gi jj).toInt = (Gj j8).toInt := fun zq => c263 ((lg_cmp_eq _ _).mpr (Int64.toInt_inj.symm.mpr zq))
                                        refine lv_iconst (v := nI 0) hx hb dX8_same_266 (by decide) ?_
                                        have exs : xSm (S i).1 (S i).2.1 (S j).2.1 = false := by rw [hLi]; exact xSm_hf (j := jj) (Or.inl hk1) (by omega) (fun z => by first | exact absurd z.1 (by rw [hx8]; decide) | (have z2 := z.2 hk1; rw [hLj, xLook_row hj8 e8 m8, xV, if_pos (Or.inl (hkk ▸ hk1))] at z2; exact c263 (by rw [z2])))
                                        have ex : xs_same S (nI i) (nI j) m0 = (0, 0, m0 + (ni + nj)) := by (unfold xs_same; rw [if_neg (by simp [ebi, ebj]), eci, ecj, if_neg (fun z => z.elim (fun z => by rw [hoi] at z; cases z) (fun z => z c56)), show (S i).2.1.length = ni from (by rw [hLi, qLs_len]), show (S j).2.1.length = nj from (by rw [hLj, qLs_len]), if_neg (by omega), if_neg (by rw [exs]; decide)])
                                        obtain ⟨m9, f9⟩ := hM.fin0 hY0 (h' := hv6) ⟨hRw.1, hRw.2.1, hRw.2.2.1, faw, fkw, fvw⟩ fr
                                        exact q_zret C hP hS (Or.inl rfl) ⟨by first | (rw [ex]; done) | (rw [ex]; rfl), by rw [ex]; exact hY, m9, f9⟩ (by omega) dX8_same_267
                                  · have hx8 := xHas_f (kd := (S j).1) (g := Gj) m8
                                    rw [← hLj] at hx8
                                    refine lv_goto (tgt := 203) hx hb dX8_same_198 (by decide) ?_
                                    refine lv_istore (lv' := [(7, .int (-1)), (6, .int (nI 1)), (5, .int (nI jj)), (3, .ref (ra i)), (4, .ref (ra j)), (0, .ref y)]) hx hb dX8_same_203 hl (by decide) rfl (fun ls hl => ?_)
                                    refine lv_iload hx hb dX8_same_205 (lv_at hl 0 rfl) ?_
                                    refine lv_if_lt (tgt := 229) hx hb dX8_same_207 (by decide) (fun _ => ?_) (fun c => absurd (by decide) c)
                                    refine lv_iconst (v := nI 0) hx hb dX8_same_229 (by decide) ?_
                                    have exs : xSm (S i).1 (S i).2.1 (S j).2.1 = false := by rw [hLi]; exact xSm_hf (j := jj) (Or.inl hk1) (by omega) (fun z => by first | exact absurd z.1 (by rw [hx8]; decide) | (have z2 := z.2 hk1; rw [hLj, xLook_row hj8 e8 m8, xV, if_pos (Or.inl (hkk ▸ hk1))] at z2; exact c263 (by rw [z2])))
                                    have ex : xs_same S (nI i) (nI j) m0 = (0, 0, m0 + (ni + nj)) := by (unfold xs_same; rw [if_neg (by simp [ebi, ebj]), eci, ecj, if_neg (fun z => z.elim (fun z => by rw [hoi] at z; cases z) (fun z => z c56)), show (S i).2.1.length = ni from (by rw [hLi, qLs_len]), show (S j).2.1.length = nj from (by rw [hLj, qLs_len]), if_neg (by omega), if_neg (by rw [exs]; decide)])
                                    obtain ⟨m9, f9⟩ := hM.fin0 hY0 (h' := hv6) ⟨hRw.1, hRw.2.1, hRw.2.2.1, faw, fkw, fvw⟩ fr
                                    exact q_zret C hP hS (Or.inl rfl) ⟨by first | (rw [ex]; done) | (rw [ex]; rfl), by rw [ex]; exact hY, m9, f9⟩ (by omega) dX8_same_230
                          · by_cases hk2 : (S i).1 = 2
                            · refine (?_ : ∀ (t : Nat) (H : Heap) (locs : List Loc) (ls : Array Slot) (jj : Nat), ni - jj < t → lv_has ls 8 [(5, .int (nI jj)), (3, .ref (ra i)), (4, .ref (ra j)), (0, .ref y)] → jj ≤ ni → (∀ q, q < jj → xHas (S j).2.1 (Fi q) = true ∧ ((S i).1 = 1 → xLook (S j).2.1 (Fi q) = Gi q)) → qP D N0 hv6 H → va_S (qA N0) s.heap H locs → W p l e _ s m _ below meth c H locs 0 0 _ (F0 m 149 ls [])) _ H locs ls 0 (Nat.lt_succ_self _) (lv_sub hl [0, 2, 1, 3] rfl) (Nat.zero_le _) (fun q hq => absurd hq (Nat.not_lt_zero _)) hP hS
                              clear hl hP hS
                              intro t
                              induction t with
                              | zero => intro H locs ls jj ht; exact absurd ht (Nat.not_lt_zero _)
                              | succ t ihl =>
                                intro H locs ls jj ht hl hj kk hP hS
                                refine lv_iload hx hb dX8_same_149 (lv_at hl 0 rfl) ?_
                                refine lv_aload_n hx hb dX8_same_151 rfl (lv_at hl 1 rfl) ?_
                                refine q_get C hP fai rfl inX7 3 (by decide) g1143 rfl dX8_same_152 ?_
                                refine lv_icmp_ge (tgt := 274) hx hb dX8_same_155 (by decide) (fun c155 => ?_) (fun c155 => ?_)
                                · replace c155 : ni ≤ jj := (nI_leI (a := ni) (b := jj) (by omega) (by omega)).mp c155
                                  refine lv_iconst (v := nI 1) hx hb dX8_same_274 (by decide) ?_
                                  have exs : xSm (S i).1 (S i).2.1 (S j).2.1 = true := by rw [hLi]; exact xSm_h (Or.inr hk2) (by rw [hLj, qLs_len]; omega) (fun q hq => kk q (by omega))
                                  have ex : xs_same S (nI i) (nI j) m0 = (0, 1, m0 + (ni + nj)) := by (unfold xs_same; rw [if_neg (by simp [ebi, ebj]), eci, ecj, if_neg (fun z => z.elim (fun z => by rw [hoi] at z; cases z) (fun z => z c56)), show (S i).2.1.length = ni from (by rw [hLi, qLs_len]), show (S j).2.1.length = nj from (by rw [hLj, qLs_len]), if_neg (by omega), if_pos exs])
                                  obtain ⟨m9, f9⟩ := hM.fin0 hY0 (h' := hv6) ⟨hRw.1, hRw.2.1, hRw.2.2.1, faw, fkw, fvw⟩ fr
                                  exact q_zret C hP hS (Or.inr rfl) ⟨by first | (rw [ex]; done) | (rw [ex]; rfl), by rw [ex]; exact hY, m9, f9⟩ (by omega) dX8_same_275
                                · replace c155 : ¬ ni ≤ jj := fun zq => c155 ((nI_leI (a := ni) (b := jj) (by omega) (by omega)).mpr zq)
                                  refine lv_aload_n hx hb dX8_same_158 rfl (lv_at hl 1 rfl) ?_
                                  refine q_get C hP fai rfl inX7 2 (by decide) g1142 rfl dX8_same_159 ?_
                                  refine lv_iconst (v := 1) hx hb dX8_same_162 (by decide) ?_
                                  refine lv_icmp_eq (tgt := 174) hx hb dX8_same_163 (by decide) (fun c => absurd (hk2.symm.trans c) (by decide)) (fun _ => ?_)
                                  refine lv_aload_n hx hb dX8_same_166 rfl (lv_at hl 1 rfl) ?_
                                  refine q_get C hP fai rfl inX7 2 (by decide) g1142 rfl dX8_same_167 ?_
                                  refine lv_iconst (v := 2) hx hb dX8_same_170 (by decide) ?_
                                  refine lv_icmp_ne (tgt := 178) hx hb dX8_same_171 (by decide) (fun c => absurd hk2 c) (fun _ => ?_)
                                  refine lv_iconst (v := nI 1) hx hb dX8_same_174 (by decide) ?_
                                  refine lv_goto (tgt := 179) hx hb dX8_same_175 (by decide) ?_
                                  refine lv_istore (lv' := [(6, .int (nI 1)), (5, .int (nI jj)), (3, .ref (ra i)), (4, .ref (ra j)), (0, .ref y)]) hx hb dX8_same_179 hl (by decide) rfl (fun ls hl => ?_)
                                  refine lv_iload hx hb dX8_same_181 (lv_at hl 0 rfl) ?_
                                  refine lv_if_eq (tgt := 201) hx hb dX8_same_183 (by decide) (fun c183 => ?_) (fun c183 => ?_)
                                  · replace c183 : 1 = 0 := (nI_eq (a := 1) (b := 0) (by omega) (by omega)).mp c183
                                    exfalso; omega
                                  · replace c183 : ¬ 1 = 0 := fun zq => c183 ((nI_eq (a := 1) (b := 0) (by omega) (by omega)).mpr zq)
                                    refine lv_aload hx hb dX8_same_186 (lv_at hl 3 rfl) ?_
                                    refine lv_aload_n hx hb dX8_same_188 rfl (lv_at hl 2 rfl) ?_
                                    refine q_get C hP fai rfl inX7 0 (by decide) g1138 rfl dX8_same_189 ?_
                                    refine lv_iload hx hb dX8_same_192 (lv_at hl 1 rfl) ?_
                                    refine q_laldN C hP fki (by omega) (by omega) dX8_same_194 ?_
                                    refine q_callS (rest := []) C (c_X8_find l D cy N0 hv6 (ra j) (rk j) (rv j) ((S j).1) (nI (S j).2.2.1) (nI (S j).2.2.2) rwj nj Fj Gj (Fi jj) ⟨hRj.1, hRj.2.1, hRj.2.2.1, faj, fkj, fvj⟩ (by omega)) kX8_find g1279 g1280 hP hS (by first | decide | omega) hl.1 rfl (by decide) (by first | decide | omega) dX8_same_195 (fun q ce E h' H1 locs1 hE => hE.elim) (fun v hh11 H locs hq hP hS => ?_)
                                    obtain ⟨rfl, hq⟩ := hq
                                    rcases hq with ⟨j8, rfl, hj8, e8, m8⟩ | ⟨rfl, m8⟩
                                    · have hx8 := xHas_t (kd := (S j).1) (g := Gj) hj8 e8
                                      rw [← hLj] at hx8
                                      refine lv_goto (tgt := 203) hx hb dX8_same_198 (by decide) ?_
                                      refine lv_istore (lv' := [(7, .int (nI j8)), (6, .int (nI 1)), (5, .int (nI jj)), (3, .ref (ra i)), (4, .ref (ra j)), (0, .ref y)]) hx hb dX8_same_203 hl (by decide) rfl (fun ls hl => ?_)
                                      refine lv_iload hx hb dX8_same_205 (lv_at hl 0 rfl) ?_
                                      refine lv_if_lt (tgt := 229) hx hb dX8_same_207 (by decide) (fun c207 => ?_) (fun c207 => ?_)
                                      · replace c207 : j8 < 0 := (nI_ltI (a := j8) (b := 0) (by omega) (by omega)).mp c207
                                        exfalso; omega
                                      · replace c207 : ¬ j8 < 0 := fun zq => c207 ((nI_ltI (a := j8) (b := 0) (by omega) (by omega)).mpr zq)
                                        refine lv_aload_n hx hb dX8_same_210 rfl (lv_at hl 3 rfl) ?_
                                        refine q_get C hP fai rfl inX7 0 (by decide) g1138 rfl dX8_same_211 ?_
                                        refine lv_iload hx hb dX8_same_214 (lv_at hl 2 rfl) ?_
                                        refine q_laldN C hP fki (by omega) (by omega) dX8_same_216 ?_
                                        refine lv_aload hx hb dX8_same_217 (lv_at hl 4 rfl) ?_
                                        refine q_get C hP faj rfl inX7 0 (by decide) g1138 rfl dX8_same_219 ?_
                                        refine lv_iload hx hb dX8_same_222 (lv_at hl 0 rfl) ?_
                                        refine q_laldN C hP fkj (by omega) (by omega) dX8_same_224 ?_
                                        refine W.lcmp hx hb dX8_same_225 ?_
                                        refine lv_if_eq (tgt := 231) hx hb dX8_same_226 (by decide) (fun _ => ?_) (fun c => absurd ((lg_cmp_eq _ _).mpr e8.symm) c)
                                        refine lv_aload_n hx hb dX8_same_231 rfl (lv_at hl 3 rfl) ?_
                                        refine q_get C hP fai rfl inX7 2 (by decide) g1142 rfl dX8_same_232 ?_
                                        refine lv_iconst (v := 1) hx hb dX8_same_235 (by decide) ?_
                                        refine lv_icmp_eq (tgt := 247) hx hb dX8_same_236 (by decide) (fun c => absurd (hk2.symm.trans c) (by decide)) (fun _ => ?_)
                                        refine lv_aload_n hx hb dX8_same_239 rfl (lv_at hl 3 rfl) ?_
                                        refine q_get C hP fai rfl inX7 2 (by decide) g1142 rfl dX8_same_240 ?_
                                        refine lv_iconst (v := 3) hx hb dX8_same_243 (by decide) ?_
                                        refine lv_icmp_ne (tgt := 268) hx hb dX8_same_244 (by decide) (fun _ => ?_) (fun c => absurd (hk2.symm.trans c) (by decide))
                                        refine lv_iinc (v := nI (jj + 1)) (lv' := [(5, .int (nI (jj + 1))), (7, .int (nI j8)), (6, .int (nI 1)), (3, .ref (ra i)), (4, .ref (ra j)), (0, .ref y)]) hx hb dX8_same_268 hl (k := 2) rfl (nI_1 jj) (by decide) rfl (fun ls hl => ?_)
                                        refine lv_goto (tgt := 149) hx hb dX8_same_271 (by decide) ?_
                                        exact ihl H locs ls (jj + 1) (by omega) (lv_sub hl [0, 3, 4, 5] rfl) (by omega) (fun q hq => if e : q = jj then by (subst e; exact ⟨hx8, fun z => absurd z hk1⟩) else kk q (by omega)) hP hS
                                    · have hx8 := xHas_f (kd := (S j).1) (g := Gj) m8
                                      rw [← hLj] at hx8
                                      refine lv_goto (tgt := 203) hx hb dX8_same_198 (by decide) ?_
                                      refine lv_istore (lv' := [(7, .int (-1)), (6, .int (nI 1)), (5, .int (nI jj)), (3, .ref (ra i)), (4, .ref (ra j)), (0, .ref y)]) hx hb dX8_same_203 hl (by decide) rfl (fun ls hl => ?_)
                                      refine lv_iload hx hb dX8_same_205 (lv_at hl 0 rfl) ?_
                                      refine lv_if_lt (tgt := 229) hx hb dX8_same_207 (by decide) (fun _ => ?_) (fun c => absurd (by decide) c)
                                      refine lv_iconst (v := nI 0) hx hb dX8_same_229 (by decide) ?_
                                      have exs : xSm (S i).1 (S i).2.1 (S j).2.1 = false := by rw [hLi]; exact xSm_hf (j := jj) (Or.inr hk2) (by omega) (fun z => by first | exact absurd z.1 (by rw [hx8]; decide) | (have z2 := z.2 hk1; rw [hLj, xLook_row hj8 e8 m8, xV, if_pos (Or.inl (hkk ▸ hk1))] at z2; exact c263 (by rw [z2])))
                                      have ex : xs_same S (nI i) (nI j) m0 = (0, 0, m0 + (ni + nj)) := by (unfold xs_same; rw [if_neg (by simp [ebi, ebj]), eci, ecj, if_neg (fun z => z.elim (fun z => by rw [hoi] at z; cases z) (fun z => z c56)), show (S i).2.1.length = ni from (by rw [hLi, qLs_len]), show (S j).2.1.length = nj from (by rw [hLj, qLs_len]), if_neg (by omega), if_neg (by rw [exs]; decide)])
                                      obtain ⟨m9, f9⟩ := hM.fin0 hY0 (h' := hv6) ⟨hRw.1, hRw.2.1, hRw.2.2.1, faw, fkw, fvw⟩ fr
                                      exact q_zret C hP hS (Or.inl rfl) ⟨by first | (rw [ex]; done) | (rw [ex]; rfl), by rw [ex]; exact hY, m9, f9⟩ (by omega) dX8_same_230
                            · refine (?_ : ∀ (t : Nat) (H : Heap) (locs : List Loc) (ls : Array Slot) (jj : Nat), ni - jj < t → lv_has ls 8 [(5, .int (nI jj)), (3, .ref (ra i)), (4, .ref (ra j)), (0, .ref y)] → jj ≤ ni → (∀ q, q < jj → Fi q = Fj q ∧ ((S i).1 = 3 → Gi q = Gj q)) → qP D N0 hv6 H → va_S (qA N0) s.heap H locs → W p l e _ s m _ below meth c H locs 0 0 _ (F0 m 149 ls [])) _ H locs ls 0 (Nat.lt_succ_self _) (lv_sub hl [0, 2, 1, 3] rfl) (Nat.zero_le _) (fun q hq => absurd hq (Nat.not_lt_zero _)) hP hS
                              clear hl hP hS
                              intro t
                              induction t with
                              | zero => intro H locs ls jj ht; exact absurd ht (Nat.not_lt_zero _)
                              | succ t ihl =>
                                intro H locs ls jj ht hl hj kk hP hS
                                refine lv_iload hx hb dX8_same_149 (lv_at hl 0 rfl) ?_
                                refine lv_aload_n hx hb dX8_same_151 rfl (lv_at hl 1 rfl) ?_
                                refine q_get C hP fai rfl inX7 3 (by decide) g1143 rfl dX8_same_152 ?_
                                refine lv_icmp_ge (tgt := 274) hx hb dX8_same_155 (by decide) (fun c155 => ?_) (fun c155 => ?_)
                                · replace c155 : ni ≤ jj := (nI_leI (a := ni) (b := jj) (by omega) (by omega)).mp c155
                                  refine lv_iconst (v := nI 1) hx hb dX8_same_274 (by decide) ?_
                                  have exs : xSm (S i).1 (S i).2.1 (S j).2.1 = true := by rw [hLi, hLj, ← hkk, ← elj]; exact xSm_o (fun z => z.elim hk1 hk2) (fun q hq => kk q (by omega))
                                  have ex : xs_same S (nI i) (nI j) m0 = (0, 1, m0 + (ni + nj)) := by (unfold xs_same; rw [if_neg (by simp [ebi, ebj]), eci, ecj, if_neg (fun z => z.elim (fun z => by rw [hoi] at z; cases z) (fun z => z c56)), show (S i).2.1.length = ni from (by rw [hLi, qLs_len]), show (S j).2.1.length = nj from (by rw [hLj, qLs_len]), if_neg (by omega), if_pos exs])
                                  obtain ⟨m9, f9⟩ := hM.fin0 hY0 (h' := hv6) ⟨hRw.1, hRw.2.1, hRw.2.2.1, faw, fkw, fvw⟩ fr
                                  exact q_zret C hP hS (Or.inr rfl) ⟨by first | (rw [ex]; done) | (rw [ex]; rfl), by rw [ex]; exact hY, m9, f9⟩ (by omega) dX8_same_275
                                · replace c155 : ¬ ni ≤ jj := fun zq => c155 ((nI_leI (a := ni) (b := jj) (by omega) (by omega)).mpr zq)
                                  refine lv_aload_n hx hb dX8_same_158 rfl (lv_at hl 1 rfl) ?_
                                  refine q_get C hP fai rfl inX7 2 (by decide) g1142 rfl dX8_same_159 ?_
                                  refine lv_iconst (v := 1) hx hb dX8_same_162 (by decide) ?_
                                  refine lv_icmp_eq (tgt := 174) hx hb dX8_same_163 (by decide) (fun c => absurd c hk1) (fun _ => ?_)
                                  refine lv_aload_n hx hb dX8_same_166 rfl (lv_at hl 1 rfl) ?_
                                  refine q_get C hP fai rfl inX7 2 (by decide) g1142 rfl dX8_same_167 ?_
                                  refine lv_iconst (v := 2) hx hb dX8_same_170 (by decide) ?_
                                  refine lv_icmp_ne (tgt := 178) hx hb dX8_same_171 (by decide) (fun _ => ?_) (fun c => absurd c hk2)
                                  refine lv_iconst (v := nI 0) hx hb dX8_same_178 (by decide) ?_
                                  refine lv_istore (lv' := [(6, .int (nI 0)), (5, .int (nI jj)), (3, .ref (ra i)), (4, .ref (ra j)), (0, .ref y)]) hx hb dX8_same_179 hl (by decide) rfl (fun ls hl => ?_)
                                  refine lv_iload hx hb dX8_same_181 (lv_at hl 0 rfl) ?_
                                  refine lv_if_eq (tgt := 201) hx hb dX8_same_183 (by decide) (fun c183 => ?_) (fun c183 => ?_)
                                  · replace c183 : 0 = 0 := (nI_eq (a := 0) (b := 0) (by omega) (by omega)).mp c183
                                    refine lv_iload hx hb dX8_same_201 (lv_at hl 1 rfl) ?_
                                    refine lv_istore (lv' := [(7, .int (nI jj)), (6, .int (nI 0)), (5, .int (nI jj)), (3, .ref (ra i)), (4, .ref (ra j)), (0, .ref y)]) hx hb dX8_same_203 hl (by decide) rfl (fun ls hl => ?_)
                                    refine lv_iload hx hb dX8_same_205 (lv_at hl 0 rfl) ?_
                                    refine lv_if_lt (tgt := 229) hx hb dX8_same_207 (by decide) (fun c207 => ?_) (fun c207 => ?_)
                                    · replace c207 : jj < 0 := (nI_ltI (a := jj) (b := 0) (by omega) (by omega)).mp c207
                                      exfalso; omega
                                    · replace c207 : ¬ jj < 0 := fun zq => c207 ((nI_ltI (a := jj) (b := 0) (by omega) (by omega)).mpr zq)
                                      refine lv_aload_n hx hb dX8_same_210 rfl (lv_at hl 3 rfl) ?_
                                      refine q_get C hP fai rfl inX7 0 (by decide) g1138 rfl dX8_same_211 ?_
                                      refine lv_iload hx hb dX8_same_214 (lv_at hl 2 rfl) ?_
                                      refine q_laldN C hP fki (by omega) (by omega) dX8_same_216 ?_
                                      refine lv_aload hx hb dX8_same_217 (lv_at hl 4 rfl) ?_
                                      refine q_get C hP faj rfl inX7 0 (by decide) g1138 rfl dX8_same_219 ?_
                                      refine lv_iload hx hb dX8_same_222 (lv_at hl 0 rfl) ?_
                                      refine q_laldN C hP fkj (by omega) (by omega) dX8_same_224 ?_
                                      refine W.lcmp hx hb dX8_same_225 ?_
                                      refine lv_if_eq (tgt := 231) hx hb dX8_same_226 (by decide) (fun c226 => ?_) (fun c226 => ?_)
                                      · replace c226 : (Fi jj).toInt = (Fj jj).toInt := Int64.toInt_inj.symm.mp ((lg_cmp_eq _ _).mp c226)
                                        refine lv_aload_n hx hb dX8_same_231 rfl (lv_at hl 3 rfl) ?_
                                        refine q_get C hP fai rfl inX7 2 (by decide) g1142 rfl dX8_same_232 ?_
                                        refine lv_iconst (v := 1) hx hb dX8_same_235 (by decide) ?_
                                        refine lv_icmp_eq (tgt := 247) hx hb dX8_same_236 (by decide) (fun c => absurd c hk1) (fun _ => ?_)
                                        refine lv_aload_n hx hb dX8_same_239 rfl (lv_at hl 3 rfl) ?_
                                        refine q_get C hP fai rfl inX7 2 (by decide) g1142 rfl dX8_same_240 ?_
                                        refine lv_iconst (v := 3) hx hb dX8_same_243 (by decide) ?_
                                        refine lv_icmp_ne (tgt := 268) hx hb dX8_same_244 (by decide) (fun c244 => ?_) (fun c244 => ?_)
                                        · refine lv_iinc (v := nI (jj + 1)) (lv' := [(5, .int (nI (jj + 1))), (7, .int (nI jj)), (6, .int (nI 0)), (3, .ref (ra i)), (4, .ref (ra j)), (0, .ref y)]) hx hb dX8_same_268 hl (k := 2) rfl (nI_1 jj) (by decide) rfl (fun ls hl => ?_)
                                          refine lv_goto (tgt := 149) hx hb dX8_same_271 (by decide) ?_
                                          exact ihl H locs ls (jj + 1) (by omega) (lv_sub hl [0, 3, 4, 5] rfl) (by omega) (fun q hq => if e : q = jj then by (subst e; exact ⟨Int64.toInt_inj.mp c226, fun z => by first | exact Int64.toInt_inj.mp c263 | exact absurd z c244⟩) else kk q (by omega)) hP hS
                                        · refine lv_aload_n hx hb dX8_same_247 rfl (lv_at hl 3 rfl) ?_
                                          refine q_get C hP fai rfl inX7 1 (by decide) g1140 rfl dX8_same_248 ?_
                                          refine lv_iload hx hb dX8_same_251 (lv_at hl 2 rfl) ?_
                                          refine q_laldN C hP fvi (by omega) (by omega) dX8_same_253 ?_
                                          refine lv_aload hx hb dX8_same_254 (lv_at hl 4 rfl) ?_
                                          refine q_get C hP faj rfl inX7 1 (by decide) g1140 rfl dX8_same_256 ?_
                                          refine lv_iload hx hb dX8_same_259 (lv_at hl 0 rfl) ?_
                                          refine q_laldN C hP fvj (by omega) (by omega) dX8_same_261 ?_
                                          refine W.lcmp hx hb dX8_same_262 ?_
                                          refine lv_if_eq (tgt := 268) hx hb dX8_same_263 (by decide) (fun c263 => ?_) (fun c263 => ?_)
                                          · replace c263 : (Gi jj).toInt = (Gj jj).toInt := Int64.toInt_inj.symm.mp ((lg_cmp_eq _ _).mp c263)
                                            refine lv_iinc (v := nI (jj + 1)) (lv' := [(5, .int (nI (jj + 1))), (7, .int (nI jj)), (6, .int (nI 0)), (3, .ref (ra i)), (4, .ref (ra j)), (0, .ref y)]) hx hb dX8_same_268 hl (k := 2) rfl (nI_1 jj) (by decide) rfl (fun ls hl => ?_)
                                            refine lv_goto (tgt := 149) hx hb dX8_same_271 (by decide) ?_
                                            exact ihl H locs ls (jj + 1) (by omega) (lv_sub hl [0, 3, 4, 5] rfl) (by omega) (fun q hq => if e : q = jj then by (subst e; exact ⟨Int64.toInt_inj.mp c226, fun z => by first | exact Int64.toInt_inj.mp c263 | exact absurd z c244⟩) else kk q (by omega)) hP hS
                                          · replace c263 : ¬ (Gi jj).toInt = (Gj jj).toInt := fun zq => c263 ((lg_cmp_eq _ _).mpr (Int64.toInt_inj.symm.mpr zq))
                                            refine lv_iconst (v := nI 0) hx hb dX8_same_266 (by decide) ?_
                                            have exs : xSm (S i).1 (S i).2.1 (S j).2.1 = false := by rw [hLi, hLj, ← hkk, ← elj]; exact xSm_of (j := jj) (fun z => z.elim hk1 hk2) (by omega) (fun z => by first | exact c226 (by rw [z.1]) | exact c263 (by rw [z.2 c244]))
                                            have ex : xs_same S (nI i) (nI j) m0 = (0, 0, m0 + (ni + nj)) := by (unfold xs_same; rw [if_neg (by simp [ebi, ebj]), eci, ecj, if_neg (fun z => z.elim (fun z => by rw [hoi] at z; cases z) (fun z => z c56)), show (S i).2.1.length = ni from (by rw [hLi, qLs_len]), show (S j).2.1.length = nj from (by rw [hLj, qLs_len]), if_neg (by omega), if_neg (by rw [exs]; decide)])
                                            obtain ⟨m9, f9⟩ := hM.fin0 hY0 (h' := hv6) ⟨hRw.1, hRw.2.1, hRw.2.2.1, faw, fkw, fvw⟩ fr
                                            exact q_zret C hP hS (Or.inl rfl) ⟨by first | (rw [ex]; done) | (rw [ex]; rfl), by rw [ex]; exact hY, m9, f9⟩ (by omega) dX8_same_267
                                      · replace c226 : ¬ (Fi jj).toInt = (Fj jj).toInt := fun zq => c226 ((lg_cmp_eq _ _).mpr (Int64.toInt_inj.symm.mpr zq))
                                        refine lv_iconst (v := nI 0) hx hb dX8_same_229 (by decide) ?_
                                        have exs : xSm (S i).1 (S i).2.1 (S j).2.1 = false := by rw [hLi, hLj, ← hkk, ← elj]; exact xSm_of (j := jj) (fun z => z.elim hk1 hk2) (by omega) (fun z => by first | exact c226 (by rw [z.1]) | exact c263 (by rw [z.2 c244]))
                                        have ex : xs_same S (nI i) (nI j) m0 = (0, 0, m0 + (ni + nj)) := by (unfold xs_same; rw [if_neg (by simp [ebi, ebj]), eci, ecj, if_neg (fun z => z.elim (fun z => by rw [hoi] at z; cases z) (fun z => z c56)), show (S i).2.1.length = ni from (by rw [hLi, qLs_len]), show (S j).2.1.length = nj from (by rw [hLj, qLs_len]), if_neg (by omega), if_neg (by rw [exs]; decide)])
                                        obtain ⟨m9, f9⟩ := hM.fin0 hY0 (h' := hv6) ⟨hRw.1, hRw.2.1, hRw.2.2.1, faw, fkw, fvw⟩ fr
                                        exact q_zret C hP hS (Or.inl rfl) ⟨by first | (rw [ex]; done) | (rw [ex]; rfl), by rw [ex]; exact hY, m9, f9⟩ (by omega) dX8_same_230
                                  · replace c183 : ¬ 0 = 0 := fun zq => c183 ((nI_eq (a := 0) (b := 0) (by omega) (by omega)).mpr zq)
                                    exfalso; omega
                        · replace c141 : ¬ ni = nj := fun zq => c141 ((nI_eq (a := ni) (b := nj) (by omega) (by omega)).mpr zq)
                          refine lv_iconst (v := nI 0) hx hb dX8_same_144 (by decide) ?_
                          have ex : xs_same S (nI i) (nI j) m0 = (0, 0, m0 + (ni + nj)) := by (unfold xs_same; rw [if_neg (by simp [ebi, ebj]), eci, ecj, if_neg (fun z => z.elim (fun z => by rw [hoi] at z; cases z) (fun z => z c56)), show (S i).2.1.length = ni from (by rw [hLi, qLs_len]), show (S j).2.1.length = nj from (by rw [hLj, qLs_len]), if_neg (by omega), if_neg (by rw [xSm_len (by rw [hLi, hLj, qLs_len, qLs_len]; omega)]; decide)])
                          obtain ⟨m9, f9⟩ := hM.fin0 hY0 (h' := hv6) ⟨hRw.1, hRw.2.1, hRw.2.2.1, faw, fkw, fvw⟩ fr
                          exact q_zret C hP hS (Or.inl rfl) ⟨by first | (rw [ex]; done) | (rw [ex]; rfl), by rw [ex]; exact hY, m9, f9⟩ (by omega) dX8_same_145
                      · replace c108 : 1 = 0 := (nI_eq (a := 1) (b := 0) (by omega) (by omega)).mp c108
                        exfalso; omega
                    · rw [if_neg cf]
                      refine lv_iconst (v := nI 3) hx hb dX8_same_104 (by decide) ?_
                      refine q_callV (rest := []) C (c_X8_good0 l D cy N0 hv4 y ms mb (ra 28) od pt fi re rc rs so ot cn la ro gr 0 ca (nI m0) ct fau cs ce rn (nI 3) hY) kX8_good g1249 g1251 rfl gp41 g4 hP hS hY (by first | decide | omega) hl.1 rfl (by decide) (by first | decide | omega) dX8_same_105 (fun q ce E h' H1 locs1 hE => hE.elim) (fun v hh12 H locs hq hP hS => ?_)
                      obtain ⟨rfl, rfl⟩ := hq
                      replace hP : qP D N0 (qs hv4 y (.inr (8, [.ref ms, .ref mb, .ref (ra 28), .int gr, .int (nI 3), .int ca, .int (nI m0), .ref od, .ref pt, .int ct, .int fau, .ref fi, .ref re, .int cs, .ref rc, .ref rs, .ref so, .ref ot, .ref cn, .ref la, .int ce, .ref ro, .int rn]))) H := hP
                      obtain ⟨hv7, ehv7⟩ : ∃ z : qH, z = qs hv4 y (.inr (8, [.ref ms, .ref mb, .ref (ra 28), .int gr, .int (nI 3), .int ca, .int (nI m0), .ref od, .ref pt, .int ct, .int fau, .ref fi, .ref re, .int cs, .ref rc, .ref rs, .ref so, .ref ot, .ref cn, .ref la, .int ce, .ref ro, .int rn])) := ⟨_, rfl⟩
                      rw [← ehv7] at hP
                      have khv7 : ∀ b o, b ≠ y → hv4 b = some o → hv7 b = some o := by rw [ehv7]; exact fun b o nb hb => (qs_ne nb).trans hb
                      replace hms := khv7 _ _ (fun q => by subst q; have := hms.symm.trans hY; first | cases this | simp at this) hms
                      replace hmb := khv7 _ _ (fun q => by subst q; have := hmb.symm.trans hY; first | cases this | simp at this) hmb
                      replace faw := khv7 _ _ (fun q => by have z9 := faw; rw [q] at z9; have := z9.symm.trans hY; first | cases this | simp at this) faw
                      replace fkw := khv7 _ _ (fun q => by have z9 := fkw; rw [q] at z9; have := z9.symm.trans hY; first | cases this | simp at this) fkw
                      replace fvw := khv7 _ _ (fun q => by have z9 := fvw; rw [q] at z9; have := z9.symm.trans hY; first | cases this | simp at this) fvw
                      replace fai := khv7 _ _ (fun q => by have z9 := fai; rw [q] at z9; have := z9.symm.trans hY; first | cases this | simp at this) fai
                      replace fki := khv7 _ _ (fun q => by have z9 := fki; rw [q] at z9; have := z9.symm.trans hY; first | cases this | simp at this) fki
                      replace fvi := khv7 _ _ (fun q => by have z9 := fvi; rw [q] at z9; have := z9.symm.trans hY; first | cases this | simp at this) fvi
                      replace faj := khv7 _ _ (fun q => by have z9 := faj; rw [q] at z9; have := z9.symm.trans hY; first | cases this | simp at this) faj
                      replace fkj := khv7 _ _ (fun q => by have z9 := fkj; rw [q] at z9; have := z9.symm.trans hY; first | cases this | simp at this) fkj
                      replace fvj := khv7 _ _ (fun q => by have z9 := fvj; rw [q] at z9; have := z9.symm.trans hY; first | cases this | simp at this) fvj
                      replace hY : hv7 y = some (.inr (8, [.ref ms, .ref mb, .ref (ra 28), .int gr, .int (nI 3), .int ca, .int (nI m0), .ref od, .ref pt, .int ct, .int fau, .ref fi, .ref re, .int cs, .ref rc, .ref rs, .ref so, .ref ot, .ref cn, .ref la, .int ce, .ref ro, .int rn])) := by rw [ehv7]; exact qs_self
                      clear ehv7
                      replace fr := fun b o hb n1 n2 => khv7 b o n1 (fr b o hb n1 n2)
                      refine lv_if_ne (tgt := 113) hx hb dX8_same_108 (by decide) (fun c108 => ?_) (fun c108 => ?_)
                      · replace c108 : ¬ 0 = 0 := fun zq => c108 ((nI_eq (a := 0) (b := 0) (by omega) (by omega)).mpr zq)
                        exfalso; omega
                      · replace c108 : 0 = 0 := (nI_eq (a := 0) (b := 0) (by omega) (by omega)).mp c108
                        refine lv_iconst (v := nI 0) hx hb dX8_same_111 (by decide) ?_
                        have ex : xs_same S (nI i) (nI j) m0 = (3, 0, m0) := by (unfold xs_same; rw [if_neg (by simp [ebi, ebj]), eci, ecj, if_neg (fun z => z.elim (fun z => by rw [hoi] at z; cases z) (fun z => z c56)), show (S i).2.1.length = ni from (by rw [hLi, qLs_len]), show (S j).2.1.length = nj from (by rw [hLj, qLs_len]), if_pos (by omega)])
                        obtain ⟨m9, f9⟩ := hM.fin0 hY0 (h' := hv7) ⟨hRw.1, hRw.2.1, hRw.2.2.1, faw, fkw, fvw⟩ fr
                        exact q_zret C hP hS (Or.inl rfl) ⟨by first | (rw [ex]; done) | (rw [ex]; rfl), by rw [ex]; exact hY, m9, f9⟩ (by omega) dX8_same_112
                  · replace c68 : 1 = 0 := (nI_eq (a := 1) (b := 0) (by omega) (by omega)).mp c68
                    exfalso; omega
      · have ebj : bSl p1 = false := bSl_f sl9
        refine lv_if_eq (tgt := 19) hx hb dX8_same_12 (by decide) (fun c12 => ?_) (fun c12 => ?_)
        · replace c12 : 0 = 0 := (nI_eq (a := 0) (b := 0) (by omega) (by omega)).mp c12
          refine lv_iconst (v := nI 0) hx hb dX8_same_19 (by decide) ?_
          refine lv_iconst (v := nI 1) hx hb dX8_same_20 (by decide) ?_
          refine q_callV (rest := []) C (c_X8_good0 l D cy N0 h y ms mb (ra 28) od pt fi re rc rs so ot cn la ro gr cd ca (nI m0) ct fau cs ce rn (nI 1) hY) kX8_good g1249 g1251 rfl gp41 g4 hP hS hY (by first | decide | omega) hl.1 rfl (by decide) (by first | decide | omega) dX8_same_21 (fun q ce E h' H1 locs1 hE => hE.elim) (fun v hh13 H locs hq hP hS => ?_)
          obtain ⟨rfl, rfl⟩ := hq
          replace hP : qP D N0 (qs h y (.inr (8, [.ref ms, .ref mb, .ref (ra 28), .int gr, .int (nI 1), .int ca, .int (nI m0), .ref od, .ref pt, .int ct, .int fau, .ref fi, .ref re, .int cs, .ref rc, .ref rs, .ref so, .ref ot, .ref cn, .ref la, .int ce, .ref ro, .int rn]))) H := hP
          obtain ⟨hv8, ehv8⟩ : ∃ z : qH, z = qs h y (.inr (8, [.ref ms, .ref mb, .ref (ra 28), .int gr, .int (nI 1), .int ca, .int (nI m0), .ref od, .ref pt, .int ct, .int fau, .ref fi, .ref re, .int cs, .ref rc, .ref rs, .ref so, .ref ot, .ref cn, .ref la, .int ce, .ref ro, .int rn])) := ⟨_, rfl⟩
          rw [← ehv8] at hP
          have khv8 : ∀ b o, b ≠ y → h b = some o → hv8 b = some o := by rw [ehv8]; exact fun b o nb hb => (qs_ne nb).trans hb
          replace hms := khv8 _ _ (fun q => by subst q; have := hms.symm.trans hY; first | cases this | simp at this) hms
          replace hmb := khv8 _ _ (fun q => by subst q; have := hmb.symm.trans hY; first | cases this | simp at this) hmb
          replace faw := khv8 _ _ (fun q => by have z9 := faw; rw [q] at z9; have := z9.symm.trans hY; first | cases this | simp at this) faw
          replace fkw := khv8 _ _ (fun q => by have z9 := fkw; rw [q] at z9; have := z9.symm.trans hY; first | cases this | simp at this) fkw
          replace fvw := khv8 _ _ (fun q => by have z9 := fvw; rw [q] at z9; have := z9.symm.trans hY; first | cases this | simp at this) fvw
          replace hY : hv8 y = some (.inr (8, [.ref ms, .ref mb, .ref (ra 28), .int gr, .int (nI 1), .int ca, .int (nI m0), .ref od, .ref pt, .int ct, .int fau, .ref fi, .ref re, .int cs, .ref rc, .ref rs, .ref so, .ref ot, .ref cn, .ref la, .int ce, .ref ro, .int rn])) := by rw [ehv8]; exact qs_self
          clear ehv8
          replace fr := fun b o hb n1 n2 => khv8 b o n1 (fr b o hb n1 n2)
          refine lv_if_eq (tgt := 71) hx hb dX8_same_24 (by decide) (fun c24 => ?_) (fun c24 => ?_)
          · replace c24 : 0 = 0 := (nI_eq (a := 0) (b := 0) (by omega) (by omega)).mp c24
            refine lv_iconst (v := nI 0) hx hb dX8_same_71 (by decide) ?_
            have ex : xs_same S (nI i) p1 m0 = (1, 0, m0) := by (unfold xs_same; rw [if_pos (by simp [ebi, ebj])])
            obtain ⟨m9, f9⟩ := hM.fin0 hY0 (h' := hv8) ⟨hRw.1, hRw.2.1, hRw.2.2.1, faw, fkw, fvw⟩ fr
            exact q_zret C hP hS (Or.inl rfl) ⟨by first | (rw [ex]; done) | (rw [ex]; rfl), by rw [ex]; exact hY, m9, f9⟩ (by omega) dX8_same_72
          · replace c24 : ¬ 0 = 0 := fun zq => c24 ((nI_eq (a := 0) (b := 0) (by omega) (by omega)).mpr zq)
            exfalso; omega
        · replace c12 : ¬ 0 = 0 := fun zq => c12 ((nI_eq (a := 0) (b := 0) (by omega) (by omega)).mpr zq)
          exfalso; omega
  · have ebi : bSl p0 = false := bSl_f sl9
    refine lv_if_eq (tgt := 19) hx hb dX8_same_5 (by decide) (fun c5 => ?_) (fun c5 => ?_)
    · replace c5 : 0 = 0 := (nI_eq (a := 0) (b := 0) (by omega) (by omega)).mp c5
      refine lv_iconst (v := nI 0) hx hb dX8_same_19 (by decide) ?_
      refine lv_iconst (v := nI 1) hx hb dX8_same_20 (by decide) ?_
      refine q_callV (rest := []) C (c_X8_good0 l D cy N0 h y ms mb (ra 28) od pt fi re rc rs so ot cn la ro gr cd ca (nI m0) ct fau cs ce rn (nI 1) hY) kX8_good g1249 g1251 rfl gp41 g4 hP hS hY (by first | decide | omega) hl.1 rfl (by decide) (by first | decide | omega) dX8_same_21 (fun q ce E h' H1 locs1 hE => hE.elim) (fun v hh14 H locs hq hP hS => ?_)
      obtain ⟨rfl, rfl⟩ := hq
      replace hP : qP D N0 (qs h y (.inr (8, [.ref ms, .ref mb, .ref (ra 28), .int gr, .int (nI 1), .int ca, .int (nI m0), .ref od, .ref pt, .int ct, .int fau, .ref fi, .ref re, .int cs, .ref rc, .ref rs, .ref so, .ref ot, .ref cn, .ref la, .int ce, .ref ro, .int rn]))) H := hP
      obtain ⟨hv9, ehv9⟩ : ∃ z : qH, z = qs h y (.inr (8, [.ref ms, .ref mb, .ref (ra 28), .int gr, .int (nI 1), .int ca, .int (nI m0), .ref od, .ref pt, .int ct, .int fau, .ref fi, .ref re, .int cs, .ref rc, .ref rs, .ref so, .ref ot, .ref cn, .ref la, .int ce, .ref ro, .int rn])) := ⟨_, rfl⟩
      rw [← ehv9] at hP
      have khv9 : ∀ b o, b ≠ y → h b = some o → hv9 b = some o := by rw [ehv9]; exact fun b o nb hb => (qs_ne nb).trans hb
      replace hms := khv9 _ _ (fun q => by subst q; have := hms.symm.trans hY; first | cases this | simp at this) hms
      replace hmb := khv9 _ _ (fun q => by subst q; have := hmb.symm.trans hY; first | cases this | simp at this) hmb
      replace faw := khv9 _ _ (fun q => by have z9 := faw; rw [q] at z9; have := z9.symm.trans hY; first | cases this | simp at this) faw
      replace fkw := khv9 _ _ (fun q => by have z9 := fkw; rw [q] at z9; have := z9.symm.trans hY; first | cases this | simp at this) fkw
      replace fvw := khv9 _ _ (fun q => by have z9 := fvw; rw [q] at z9; have := z9.symm.trans hY; first | cases this | simp at this) fvw
      replace hY : hv9 y = some (.inr (8, [.ref ms, .ref mb, .ref (ra 28), .int gr, .int (nI 1), .int ca, .int (nI m0), .ref od, .ref pt, .int ct, .int fau, .ref fi, .ref re, .int cs, .ref rc, .ref rs, .ref so, .ref ot, .ref cn, .ref la, .int ce, .ref ro, .int rn])) := by rw [ehv9]; exact qs_self
      clear ehv9
      replace fr := fun b o hb n1 n2 => khv9 b o n1 (fr b o hb n1 n2)
      refine lv_if_eq (tgt := 71) hx hb dX8_same_24 (by decide) (fun c24 => ?_) (fun c24 => ?_)
      · replace c24 : 0 = 0 := (nI_eq (a := 0) (b := 0) (by omega) (by omega)).mp c24
        refine lv_iconst (v := nI 0) hx hb dX8_same_71 (by decide) ?_
        have ex : xs_same S p0 p1 m0 = (1, 0, m0) := by (unfold xs_same; rw [if_pos (by simp [ebi])])
        obtain ⟨m9, f9⟩ := hM.fin0 hY0 (h' := hv9) ⟨hRw.1, hRw.2.1, hRw.2.2.1, faw, fkw, fvw⟩ fr
        exact q_zret C hP hS (Or.inl rfl) ⟨by first | (rw [ex]; done) | (rw [ex]; rfl), by rw [ex]; exact hY, m9, f9⟩ (by omega) dX8_same_72
      · replace c24 : ¬ 0 = 0 := fun zq => c24 ((nI_eq (a := 0) (b := 0) (by omega) (by omega)).mpr zq)
        exfalso; omega
    · replace c5 : ¬ 0 = 0 := fun zq => c5 ((nI_eq (a := 0) (b := 0) (by omega) (by omega)).mpr zq)
      exfalso; omega
