theorem dL_law_188 : decode cL_law 188 = .ok (.aload_n 1, 1) := by decide +kernel
theorem dL_law_189 : decode cL_law 189 = .ok (.aload_n 0, 1) := by decide +kernel
theorem dL_law_190 : decode cL_law 190 = .ok (.iload 4, 2) := by decide +kernel
theorem dL_law_192 : decode cL_law 192 = .ok (.iconst 1, 1) := by decide +kernel
theorem dL_law_193 : decode cL_law 193 = .ok (.iadd, 1) := by decide +kernel
theorem dL_law_194 : decode cL_law 194 = .ok (.iaload, 1) := by decide +kernel
theorem dL_law_195 : decode cL_law 195 = .ok (.aload_n 0, 1) := by decide +kernel
theorem dL_law_196 : decode cL_law 196 = .ok (.iload 4, 2) := by decide +kernel
theorem dL_law_198 : decode cL_law 198 = .ok (.iconst 2, 1) := by decide +kernel
theorem dL_law_199 : decode cL_law 199 = .ok (.iadd, 1) := by decide +kernel
theorem dL_law_200 : decode cL_law 200 = .ok (.iaload, 1) := by decide +kernel
theorem dL_law_201 : decode cL_law 201 = .ok (.invokestatic 143, 3) := by decide +kernel
theorem dL_law_204 : decode cL_law 204 = .ok (.istore 5, 2) := by decide +kernel
theorem dL_law_206 : decode cL_law 206 = .ok (.aload_n 2, 1) := by decide +kernel
theorem dL_law_207 : decode cL_law 207 = .ok (.aload_n 0, 1) := by decide +kernel
theorem dL_law_208 : decode cL_law 208 = .ok (.iload 4, 2) := by decide +kernel
theorem dL_law_210 : decode cL_law 210 = .ok (.iconst 1, 1) := by decide +kernel
theorem dL_law_211 : decode cL_law 211 = .ok (.iadd, 1) := by decide +kernel
theorem dL_law_212 : decode cL_law 212 = .ok (.iaload, 1) := by decide +kernel
theorem dL_law_213 : decode cL_law 213 = .ok (.aload_n 0, 1) := by decide +kernel
theorem dL_law_214 : decode cL_law 214 = .ok (.iload 4, 2) := by decide +kernel
theorem dL_law_216 : decode cL_law 216 = .ok (.iconst 2, 1) := by decide +kernel
theorem dL_law_217 : decode cL_law 217 = .ok (.iadd, 1) := by decide +kernel
theorem dL_law_218 : decode cL_law 218 = .ok (.iaload, 1) := by decide +kernel
theorem dL_law_219 : decode cL_law 219 = .ok (.invokevirtual 146, 3) := by decide +kernel
theorem dL_law_222 : decode cL_law 222 = .ok (.aload_n 2, 1) := by decide +kernel
theorem dL_law_223 : decode cL_law 223 = .ok (.invokevirtual 147, 3) := by decide +kernel
theorem dL_law_226 : decode cL_law 226 = .ok (.iload 5, 2) := by decide +kernel
theorem dL_law_228 : decode cL_law 228 = .ok (.if_icmp .eq 5, 3) := by decide +kernel
theorem dL_law_233 : decode cL_law 233 = .ok (.goto 2707, 3) := by decide +kernel
set_option maxRecDepth 100000 in
set_option maxHeartbeats 4000000 in
theorem lc_make {p : Program} {l : Launch} {e : Env} {mc ms : Nat} {s : State} {m : MethodId} {below : List Frame} {meth : Method} {c : Code} {H : Heap} {locs : List Loc} {cells slots : Nat} {Q : State → Prop} {rt0 : Option FieldType} {nm0 : String} {D : va_G} {cy : Nat → ClassId} {N0 : Nat} {tb : List ExceptionTableEntry} {h : qH} {ls : Array Slot} {b L : Nat} {xs : Nat → Int32} {x y ou : Nat} {fo : Nat → Int64} {gr : Int32} {n i C1 C2 : Nat} {S : Nat → qSlot} {Wo : qWo} (C : qX p l s m #[Value.ref b] meth c RL cL_law 8 rt0 nm0 D cy N0 tb) (hX : va_X b L xs s s.heap) (hbl0 : b < s.heap.size) (hbA : ¬ qA N0 b) (hP : qP D N0 h H) (hS : va_S (qA N0) s.heap H locs) (hi : i + 7 ≤ L) (hL : L ≤ 449) (hn : n < 64) (j : JZ cy h x y ou fo gr n S Wo S Wo) (hp : PI gr n S Wo) (hc1 : cells ≤ C1 + t1 n + Wo.2.1.1 + qP1 Wo.2.1) (hc2 : slots ≤ C2 + t2 n + 10 * Wo.2.1.1 + qP2 Wo.2.1) (hmc : C1 + 530000 ≤ mc) (hms : C2 + 5520000 ≤ ms) (hl : lv_has ls 8 [(4, .int (nI i)), (3, .ref ou), (2, .ref y), (1, .ref x), (0, .ref b)]) (kend : ∀ (ls : Array Slot) (H : Heap) (locs : List Loc) (c1 c2 : Nat) (h : qH) (fo : Nat → Int64) (S : Nat → qSlot) (Wo : qWo), JZ cy h x y ou fo gr (n + 1) S Wo S Wo → PI gr (n + 1) S Wo → c1 ≤ C1 + t1 (n + 1) + Wo.2.1.1 + qP1 Wo.2.1 → c2 ≤ C2 + t2 (n + 1) + 10 * Wo.2.1.1 + qP2 Wo.2.1 → qP D N0 h H → va_S (qA N0) s.heap H locs → lv_has ls 8 [(4, .int (nI i)), (3, .ref ou), (2, .ref y), (1, .ref x), (0, .ref b)] → W p l e (qR 2048 84000 mc ms) s m #[Value.ref b] below meth c H locs c1 c2 Q (F0 m 2940 ls [])) : W p l e (qR 2048 84000 mc ms) s m #[Value.ref b] below meth c H locs cells slots Q (F0 m 188 ls []) := by
  have hx := C.1
  have hb := C.2.1
  have h1L := t1_le (n + 1) (by omega)
  have h2L := t2_le (n + 1) (by omega)
  have e1L : t1 (n + 1) = t1 n + (1201 + 212 * n) := rfl
  have e2L : t2 (n + 1) = t2 n + (13300 + n * rMs n 7) := rfl
  have hb0 := hp.bnd (by omega)
  refine lv_aload_n hx hb dL_law_188 rfl (lv_at hl 3 rfl) ?_
  refine lv_aload_n hx hb dL_law_189 rfl (lv_at hl 4 rfl) ?_
  refine lv_iload hx hb dL_law_190 (lv_at hl 0 rfl) ?_
  refine lv_iconst (v := nI 1) hx hb dL_law_192 (by decide) ?_
  refine q_iaddN hx hb dL_law_193 ?_
  refine va_sld hx hb hX hbl0 hbA hS (nI_in (by omega) (by omega)) dL_law_194 ?_
  refine lv_topi (fun s1 es1 => ?_)
  refine lv_aload_n hx hb dL_law_195 rfl (lv_at hl 4 rfl) ?_
  refine lv_iload hx hb dL_law_196 (lv_at hl 0 rfl) ?_
  refine lv_iconst (v := nI 2) hx hb dL_law_198 (by decide) ?_
  refine q_iaddN hx hb dL_law_199 ?_
  refine va_sld hx hb hX hbl0 hbA hS (nI_in (by omega) (by omega)) dL_law_200 ?_
  refine lv_topi (fun s2 es2 => ?_)
  have hpK : PI gr (n + 1) ((xs_make S s1 s2).2) (Wo) := hp.make
  have hbK := hpK.bnd (by omega)
  have hmo : MO Wo (Wo) := MO.rf
  have hqm := qP1_mo hmo hb0.2.2.2
  have hm1 := hmo.1
  refine q_callSW (rest := []) C (zl_make l D cy N0 h x y ou fo gr n S Wo s1 s2 j hp hn) kwL_make g96 g97 hP hS (by omega) hl.1 rfl (by decide) (by omega) dL_law_201 (fun v hh1 H locs hq hP hS => ?_)
  obtain ⟨rfl, j1⟩ := hq
  obtain ⟨fi, re, rc, rs, so, ot, cn, la, hy1⟩ := j1.yo
  refine lv_istore (lv' := [(5, .int ((xs_make S s1 s2).1)), (4, .int (nI i)), (3, .ref ou), (2, .ref y), (1, .ref x), (0, .ref b)]) hx hb dL_law_204 hl (by decide) rfl (fun ls hl => ?_)
  refine lv_aload_n hx hb dL_law_206 rfl (lv_at hl 3 rfl) ?_
  refine lv_aload_n hx hb dL_law_207 rfl (lv_at hl 5 rfl) ?_
  refine lv_iload hx hb dL_law_208 (lv_at hl 1 rfl) ?_
  refine lv_iconst (v := nI 1) hx hb dL_law_210 (by decide) ?_
  refine q_iaddN hx hb dL_law_211 ?_
  refine va_sld hx hb hX hbl0 hbA hS (nI_in (by omega) (by omega)) dL_law_212 ?_
  rw [← es1]
  refine lv_aload_n hx hb dL_law_213 rfl (lv_at hl 5 rfl) ?_
  refine lv_iload hx hb dL_law_214 (lv_at hl 1 rfl) ?_
  refine lv_iconst (v := nI 2) hx hb dL_law_216 (by decide) ?_
  refine q_iaddN hx hb dL_law_217 ?_
  refine va_sld hx hb hX hbl0 hbA hS (nI_in (by omega) (by omega)) dL_law_218 ?_
  rw [← es2]
  refine q_callV (rest := []) C (wl_make l D cy N0 hh1 x y ou fo gr n S Wo s1 s2 j1 hp hn) kX8_make g1242 g1243 rfl g1244 g4 hP hS hy1 (by first | decide | omega) hl.1 rfl (by decide) (by first | decide | omega) dL_law_219 (fun q ce E h' H1 locs1 hE => hE.elim) (fun v hh2 H locs hq hP hS => ?_)
  obtain ⟨rfl, W2, j2, p2, hcd, hw2⟩ := hq
  have hb2 : W2.2.1 = (Wo).2.1 := congrArg Prod.fst hw2
  obtain ⟨fi2, re2, rc2, rs2, so2, ot2, cn2, la2, hy2⟩ := j2.yo
  refine lv_aload_n hx hb dL_law_222 rfl (lv_at hl 3 rfl) ?_
  refine q_callV (rest := []) C (c_X8_thrown l D cy N0 hh2 y W2.1.1 W2.1.2.1 W2.1.2.2.1 W2.1.2.2.2.1 W2.1.2.2.2.2.1 fi2 re2 rc2 rs2 so2 ot2 cn2 la2 W2.1.2.2.2.2.2.1 W2.1.2.2.2.2.2.2.1 W2.1.2.2.2.2.2.2.2.1 W2.1.2.2.2.2.2.2.2.2.1 W2.1.2.2.2.2.2.2.2.2.2.1 W2.1.2.2.2.2.2.2.2.2.2.2.1 W2.1.2.2.2.2.2.2.2.2.2.2.2.1 (nI W2.2.1.1) (nI W2.2.2.1) W2.1.2.2.2.2.2.2.2.2.2.2.2.2 hy2) kX8_thrown g1238 g1239 rfl g1240 g4 hP hS hy2 (by first | decide | omega) hl.1 rfl (by decide) (by first | decide | omega) dL_law_223 (fun q ce E h' H1 locs1 hE => hE.elim) (fun v hh3 H locs hq hP hS => ?_)
  obtain ⟨rfl, rfl⟩ := hq
  rw [hcd]
  refine lv_iload hx hb dL_law_226 (lv_at hl 0 rfl) ?_
  refine lv_icmp_eq (tgt := 233) hx hb dL_law_228 (by decide) (fun _ => ?_) (fun c9 => absurd rfl c9)
  refine lv_goto (tgt := 2940) hx hb dL_law_233 (by decide) ?_
  exact kend ls H locs _ _ _ fo _ W2 j2 p2 (by rw [hb2]; omega) (by rw [hb2]; omega) hP hS (lv_sub hl [1, 2, 3, 4, 5] rfl)
theorem dL_law_236 : decode cL_law 236 = .ok (.aload_n 1, 1) := by decide +kernel
theorem dL_law_237 : decode cL_law 237 = .ok (.aload_n 0, 1) := by decide +kernel
theorem dL_law_238 : decode cL_law 238 = .ok (.iload 4, 2) := by decide +kernel
theorem dL_law_240 : decode cL_law 240 = .ok (.iconst 1, 1) := by decide +kernel
theorem dL_law_241 : decode cL_law 241 = .ok (.iadd, 1) := by decide +kernel
theorem dL_law_242 : decode cL_law 242 = .ok (.iaload, 1) := by decide +kernel
theorem dL_law_243 : decode cL_law 243 = .ok (.aload_n 0, 1) := by decide +kernel
theorem dL_law_244 : decode cL_law 244 = .ok (.iload 4, 2) := by decide +kernel
theorem dL_law_246 : decode cL_law 246 = .ok (.iconst 2, 1) := by decide +kernel
theorem dL_law_247 : decode cL_law 247 = .ok (.iadd, 1) := by decide +kernel
theorem dL_law_248 : decode cL_law 248 = .ok (.iaload, 1) := by decide +kernel
theorem dL_law_249 : decode cL_law 249 = .ok (.invokestatic 151, 3) := by decide +kernel
theorem dL_law_252 : decode cL_law 252 = .ok (.istore 5, 2) := by decide +kernel
theorem dL_law_254 : decode cL_law 254 = .ok (.aload_n 2, 1) := by decide +kernel
theorem dL_law_255 : decode cL_law 255 = .ok (.aload_n 0, 1) := by decide +kernel
theorem dL_law_256 : decode cL_law 256 = .ok (.iload 4, 2) := by decide +kernel
theorem dL_law_258 : decode cL_law 258 = .ok (.iconst 1, 1) := by decide +kernel
theorem dL_law_259 : decode cL_law 259 = .ok (.iadd, 1) := by decide +kernel
theorem dL_law_260 : decode cL_law 260 = .ok (.iaload, 1) := by decide +kernel
theorem dL_law_261 : decode cL_law 261 = .ok (.aload_n 0, 1) := by decide +kernel
theorem dL_law_262 : decode cL_law 262 = .ok (.iload 4, 2) := by decide +kernel
theorem dL_law_264 : decode cL_law 264 = .ok (.iconst 2, 1) := by decide +kernel
theorem dL_law_265 : decode cL_law 265 = .ok (.iadd, 1) := by decide +kernel
theorem dL_law_266 : decode cL_law 266 = .ok (.iaload, 1) := by decide +kernel
theorem dL_law_267 : decode cL_law 267 = .ok (.invokevirtual 153, 3) := by decide +kernel
theorem dL_law_270 : decode cL_law 270 = .ok (.aload_n 2, 1) := by decide +kernel
theorem dL_law_271 : decode cL_law 271 = .ok (.invokevirtual 147, 3) := by decide +kernel
theorem dL_law_274 : decode cL_law 274 = .ok (.iload 5, 2) := by decide +kernel
theorem dL_law_276 : decode cL_law 276 = .ok (.if_icmp .eq 5, 3) := by decide +kernel
theorem dL_law_281 : decode cL_law 281 = .ok (.goto 2659, 3) := by decide +kernel
set_option maxRecDepth 100000 in
set_option maxHeartbeats 4000000 in
theorem lc_copy {p : Program} {l : Launch} {e : Env} {mc ms : Nat} {s : State} {m : MethodId} {below : List Frame} {meth : Method} {c : Code} {H : Heap} {locs : List Loc} {cells slots : Nat} {Q : State → Prop} {rt0 : Option FieldType} {nm0 : String} {D : va_G} {cy : Nat → ClassId} {N0 : Nat} {tb : List ExceptionTableEntry} {h : qH} {ls : Array Slot} {b L : Nat} {xs : Nat → Int32} {x y ou : Nat} {fo : Nat → Int64} {gr : Int32} {n i C1 C2 : Nat} {S : Nat → qSlot} {Wo : qWo} (C : qX p l s m #[Value.ref b] meth c RL cL_law 8 rt0 nm0 D cy N0 tb) (hX : va_X b L xs s s.heap) (hbl0 : b < s.heap.size) (hbA : ¬ qA N0 b) (hP : qP D N0 h H) (hS : va_S (qA N0) s.heap H locs) (hi : i + 7 ≤ L) (hL : L ≤ 449) (hn : n < 64) (j : JZ cy h x y ou fo gr n S Wo S Wo) (hp : PI gr n S Wo) (hc1 : cells ≤ C1 + t1 n + Wo.2.1.1 + qP1 Wo.2.1) (hc2 : slots ≤ C2 + t2 n + 10 * Wo.2.1.1 + qP2 Wo.2.1) (hmc : C1 + 530000 ≤ mc) (hms : C2 + 5520000 ≤ ms) (hl : lv_has ls 8 [(4, .int (nI i)), (3, .ref ou), (2, .ref y), (1, .ref x), (0, .ref b)]) (kend : ∀ (ls : Array Slot) (H : Heap) (locs : List Loc) (c1 c2 : Nat) (h : qH) (fo : Nat → Int64) (S : Nat → qSlot) (Wo : qWo), JZ cy h x y ou fo gr (n + 1) S Wo S Wo → PI gr (n + 1) S Wo → c1 ≤ C1 + t1 (n + 1) + Wo.2.1.1 + qP1 Wo.2.1 → c2 ≤ C2 + t2 (n + 1) + 10 * Wo.2.1.1 + qP2 Wo.2.1 → qP D N0 h H → va_S (qA N0) s.heap H locs → lv_has ls 8 [(4, .int (nI i)), (3, .ref ou), (2, .ref y), (1, .ref x), (0, .ref b)] → W p l e (qR 2048 84000 mc ms) s m #[Value.ref b] below meth c H locs c1 c2 Q (F0 m 2940 ls [])) : W p l e (qR 2048 84000 mc ms) s m #[Value.ref b] below meth c H locs cells slots Q (F0 m 236 ls []) := by
  have hx := C.1
  have hb := C.2.1
  have h1L := t1_le (n + 1) (by omega)
  have h2L := t2_le (n + 1) (by omega)
  have e1L : t1 (n + 1) = t1 n + (1201 + 212 * n) := rfl
  have e2L : t2 (n + 1) = t2 n + (13300 + n * rMs n 7) := rfl
  have hb0 := hp.bnd (by omega)
  refine lv_aload_n hx hb dL_law_236 rfl (lv_at hl 3 rfl) ?_
  refine lv_aload_n hx hb dL_law_237 rfl (lv_at hl 4 rfl) ?_
  refine lv_iload hx hb dL_law_238 (lv_at hl 0 rfl) ?_
  refine lv_iconst (v := nI 1) hx hb dL_law_240 (by decide) ?_
  refine q_iaddN hx hb dL_law_241 ?_
  refine va_sld hx hb hX hbl0 hbA hS (nI_in (by omega) (by omega)) dL_law_242 ?_
  refine lv_topi (fun s1 es1 => ?_)
  refine lv_aload_n hx hb dL_law_243 rfl (lv_at hl 4 rfl) ?_
  refine lv_iload hx hb dL_law_244 (lv_at hl 0 rfl) ?_
  refine lv_iconst (v := nI 2) hx hb dL_law_246 (by decide) ?_
  refine q_iaddN hx hb dL_law_247 ?_
  refine va_sld hx hb hX hbl0 hbA hS (nI_in (by omega) (by omega)) dL_law_248 ?_
  refine lv_topi (fun s2 es2 => ?_)
  have hpK : PI gr (n + 1) ((xs_copy S s1 s2).2) (Wo) := hp.copy
  have hbK := hpK.bnd (by omega)
  have hmo : MO Wo (Wo) := MO.rf
  have hqm := qP1_mo hmo hb0.2.2.2
  have hm1 := hmo.1
  refine q_callSW (rest := []) C (zl_copy l D cy N0 h x y ou fo gr n S Wo s1 s2 j hp hn) kwL_copy g235 g236 hP hS (by omega) hl.1 rfl (by decide) (by omega) dL_law_249 (fun v hh1 H locs hq hP hS => ?_)
  obtain ⟨rfl, j1⟩ := hq
  obtain ⟨fi, re, rc, rs, so, ot, cn, la, hy1⟩ := j1.yo
  refine lv_istore (lv' := [(5, .int ((xs_copy S s1 s2).1)), (4, .int (nI i)), (3, .ref ou), (2, .ref y), (1, .ref x), (0, .ref b)]) hx hb dL_law_252 hl (by decide) rfl (fun ls hl => ?_)
  refine lv_aload_n hx hb dL_law_254 rfl (lv_at hl 3 rfl) ?_
  refine lv_aload_n hx hb dL_law_255 rfl (lv_at hl 5 rfl) ?_
  refine lv_iload hx hb dL_law_256 (lv_at hl 1 rfl) ?_
  refine lv_iconst (v := nI 1) hx hb dL_law_258 (by decide) ?_
  refine q_iaddN hx hb dL_law_259 ?_
  refine va_sld hx hb hX hbl0 hbA hS (nI_in (by omega) (by omega)) dL_law_260 ?_
  rw [← es1]
  refine lv_aload_n hx hb dL_law_261 rfl (lv_at hl 5 rfl) ?_
  refine lv_iload hx hb dL_law_262 (lv_at hl 1 rfl) ?_
  refine lv_iconst (v := nI 2) hx hb dL_law_264 (by decide) ?_
  refine q_iaddN hx hb dL_law_265 ?_
  refine va_sld hx hb hX hbl0 hbA hS (nI_in (by omega) (by omega)) dL_law_266 ?_
  rw [← es2]
  refine q_callV (rest := []) C (wl_copy l D cy N0 hh1 x y ou fo gr n S Wo s1 s2 j1 hp hn) kX8_copy_ g1253 g1254 rfl g1255 g4 hP hS hy1 (by first | decide | omega) hl.1 rfl (by decide) (by first | decide | omega) dL_law_267 (fun q ce E h' H1 locs1 hE => hE.elim) (fun v hh2 H locs hq hP hS => ?_)
  obtain ⟨rfl, W2, j2, p2, hcd, hw2⟩ := hq
  have hb2 : W2.2.1 = (Wo).2.1 := congrArg Prod.fst hw2
  obtain ⟨fi2, re2, rc2, rs2, so2, ot2, cn2, la2, hy2⟩ := j2.yo
  refine lv_aload_n hx hb dL_law_270 rfl (lv_at hl 3 rfl) ?_
  refine q_callV (rest := []) C (c_X8_thrown l D cy N0 hh2 y W2.1.1 W2.1.2.1 W2.1.2.2.1 W2.1.2.2.2.1 W2.1.2.2.2.2.1 fi2 re2 rc2 rs2 so2 ot2 cn2 la2 W2.1.2.2.2.2.2.1 W2.1.2.2.2.2.2.2.1 W2.1.2.2.2.2.2.2.2.1 W2.1.2.2.2.2.2.2.2.2.1 W2.1.2.2.2.2.2.2.2.2.2.1 W2.1.2.2.2.2.2.2.2.2.2.2.1 W2.1.2.2.2.2.2.2.2.2.2.2.2.1 (nI W2.2.1.1) (nI W2.2.2.1) W2.1.2.2.2.2.2.2.2.2.2.2.2.2 hy2) kX8_thrown g1238 g1239 rfl g1240 g4 hP hS hy2 (by first | decide | omega) hl.1 rfl (by decide) (by first | decide | omega) dL_law_271 (fun q ce E h' H1 locs1 hE => hE.elim) (fun v hh3 H locs hq hP hS => ?_)
  obtain ⟨rfl, rfl⟩ := hq
  rw [hcd]
  refine lv_iload hx hb dL_law_274 (lv_at hl 0 rfl) ?_
  refine lv_icmp_eq (tgt := 281) hx hb dL_law_276 (by decide) (fun _ => ?_) (fun c9 => absurd rfl c9)
  refine lv_goto (tgt := 2940) hx hb dL_law_281 (by decide) ?_
  exact kend ls H locs _ _ _ fo _ W2 j2 p2 (by rw [hb2]; omega) (by rw [hb2]; omega) hP hS (lv_sub hl [1, 2, 3, 4, 5] rfl)
theorem dL_law_284 : decode cL_law 284 = .ok (.aload_n 1, 1) := by decide +kernel
theorem dL_law_285 : decode cL_law 285 = .ok (.aload_n 0, 1) := by decide +kernel
theorem dL_law_286 : decode cL_law 286 = .ok (.iload 4, 2) := by decide +kernel
theorem dL_law_288 : decode cL_law 288 = .ok (.iconst 1, 1) := by decide +kernel
theorem dL_law_289 : decode cL_law 289 = .ok (.iadd, 1) := by decide +kernel
theorem dL_law_290 : decode cL_law 290 = .ok (.iaload, 1) := by decide +kernel
theorem dL_law_291 : decode cL_law 291 = .ok (.aload_n 3, 1) := by decide +kernel
theorem dL_law_292 : decode cL_law 292 = .ok (.invokestatic 154, 3) := by decide +kernel
theorem dL_law_295 : decode cL_law 295 = .ok (.istore 5, 2) := by decide +kernel
theorem dL_law_297 : decode cL_law 297 = .ok (.aload_n 2, 1) := by decide +kernel
theorem dL_law_298 : decode cL_law 298 = .ok (.aload_n 0, 1) := by decide +kernel
theorem dL_law_299 : decode cL_law 299 = .ok (.iload 4, 2) := by decide +kernel
theorem dL_law_301 : decode cL_law 301 = .ok (.iconst 1, 1) := by decide +kernel
theorem dL_law_302 : decode cL_law 302 = .ok (.iadd, 1) := by decide +kernel
theorem dL_law_303 : decode cL_law 303 = .ok (.iaload, 1) := by decide +kernel
theorem dL_law_304 : decode cL_law 304 = .ok (.invokevirtual 157, 3) := by decide +kernel
theorem dL_law_307 : decode cL_law 307 = .ok (.istore 6, 2) := by decide +kernel
theorem dL_law_309 : decode cL_law 309 = .ok (.aload_n 2, 1) := by decide +kernel
theorem dL_law_310 : decode cL_law 310 = .ok (.invokevirtual 147, 3) := by decide +kernel
theorem dL_law_313 : decode cL_law 313 = .ok (.iload 5, 2) := by decide +kernel
theorem dL_law_315 : decode cL_law 315 = .ok (.if_icmp .eq 5, 3) := by decide +kernel
theorem dL_law_320 : decode cL_law 320 = .ok (.iload 5, 2) := by decide +kernel
theorem dL_law_322 : decode cL_law 322 = .ok (.ifCond .ne 15, 3) := by decide +kernel
theorem dL_law_325 : decode cL_law 325 = .ok (.aload_n 3, 1) := by decide +kernel
theorem dL_law_326 : decode cL_law 326 = .ok (.iconst 0, 1) := by decide +kernel
theorem dL_law_327 : decode cL_law 327 = .ok (.laload, 1) := by decide +kernel
theorem dL_law_328 : decode cL_law 328 = .ok (.iload 6, 2) := by decide +kernel
theorem dL_law_330 : decode cL_law 330 = .ok (.i2l, 1) := by decide +kernel
theorem dL_law_331 : decode cL_law 331 = .ok (.lcmp, 1) := by decide +kernel
theorem dL_law_332 : decode cL_law 332 = .ok (.ifCond .eq 5, 3) := by decide +kernel
theorem dL_law_337 : decode cL_law 337 = .ok (.goto 2603, 3) := by decide +kernel
set_option maxRecDepth 100000 in
set_option maxHeartbeats 4000000 in
theorem lc_size {p : Program} {l : Launch} {e : Env} {mc ms : Nat} {s : State} {m : MethodId} {below : List Frame} {meth : Method} {c : Code} {H : Heap} {locs : List Loc} {cells slots : Nat} {Q : State → Prop} {rt0 : Option FieldType} {nm0 : String} {D : va_G} {cy : Nat → ClassId} {N0 : Nat} {tb : List ExceptionTableEntry} {h : qH} {ls : Array Slot} {b L : Nat} {xs : Nat → Int32} {x y ou : Nat} {fo : Nat → Int64} {gr : Int32} {n i C1 C2 : Nat} {S : Nat → qSlot} {Wo : qWo} (C : qX p l s m #[Value.ref b] meth c RL cL_law 8 rt0 nm0 D cy N0 tb) (hX : va_X b L xs s s.heap) (hbl0 : b < s.heap.size) (hbA : ¬ qA N0 b) (hP : qP D N0 h H) (hS : va_S (qA N0) s.heap H locs) (hi : i + 7 ≤ L) (hL : L ≤ 449) (hn : n < 64) (j : JZ cy h x y ou fo gr n S Wo S Wo) (hp : PI gr n S Wo) (hc1 : cells ≤ C1 + t1 n + Wo.2.1.1 + qP1 Wo.2.1) (hc2 : slots ≤ C2 + t2 n + 10 * Wo.2.1.1 + qP2 Wo.2.1) (hmc : C1 + 530000 ≤ mc) (hms : C2 + 5520000 ≤ ms) (hl : lv_has ls 8 [(4, .int (nI i)), (3, .ref ou), (2, .ref y), (1, .ref x), (0, .ref b)]) (kend : ∀ (ls : Array Slot) (H : Heap) (locs : List Loc) (c1 c2 : Nat) (h : qH) (fo : Nat → Int64) (S : Nat → qSlot) (Wo : qWo), JZ cy h x y ou fo gr (n + 1) S Wo S Wo → PI gr (n + 1) S Wo → c1 ≤ C1 + t1 (n + 1) + Wo.2.1.1 + qP1 Wo.2.1 → c2 ≤ C2 + t2 (n + 1) + 10 * Wo.2.1.1 + qP2 Wo.2.1 → qP D N0 h H → va_S (qA N0) s.heap H locs → lv_has ls 8 [(4, .int (nI i)), (3, .ref ou), (2, .ref y), (1, .ref x), (0, .ref b)] → W p l e (qR 2048 84000 mc ms) s m #[Value.ref b] below meth c H locs c1 c2 Q (F0 m 2940 ls [])) : W p l e (qR 2048 84000 mc ms) s m #[Value.ref b] below meth c H locs cells slots Q (F0 m 284 ls []) := by
  have hx := C.1
  have hb := C.2.1
  have h1L := t1_le (n + 1) (by omega)
  have h2L := t2_le (n + 1) (by omega)
  have e1L : t1 (n + 1) = t1 n + (1201 + 212 * n) := rfl
  have e2L : t2 (n + 1) = t2 n + (13300 + n * rMs n 7) := rfl
  have hb0 := hp.bnd (by omega)
  refine lv_aload_n hx hb dL_law_284 rfl (lv_at hl 3 rfl) ?_
  refine lv_aload_n hx hb dL_law_285 rfl (lv_at hl 4 rfl) ?_
  refine lv_iload hx hb dL_law_286 (lv_at hl 0 rfl) ?_
  refine lv_iconst (v := nI 1) hx hb dL_law_288 (by decide) ?_
  refine q_iaddN hx hb dL_law_289 ?_
  refine va_sld hx hb hX hbl0 hbA hS (nI_in (by omega) (by omega)) dL_law_290 ?_
  refine lv_topi (fun s1 es1 => ?_)
  refine lv_aload_n hx hb dL_law_291 rfl (lv_at hl 1 rfl) ?_
  have hpK : PI gr (n + 1) (S) (Wo) := hp.up
  have hbK := hpK.bnd (by omega)
  have hmo : MO Wo (Wo) := MO.rf
  have hqm := qP1_mo hmo hb0.2.2.2
  have hm1 := hmo.1
  refine q_callSW (rest := []) C (zl_size l D cy N0 h x y ou fo gr n S Wo s1 j hp hn) kwL_size g263 g264 hP hS (by omega) hl.1 rfl (by decide) (by omega) dL_law_292 (fun v hh1 H locs hq hP hS => ?_)
  obtain ⟨rfl, fo1, j1, ha1⟩ := hq
  obtain ⟨fi, re, rc, rs, so, ot, cn, la, hy1⟩ := j1.yo
  refine lv_istore (lv' := [(5, .int ((xs_size S s1).1)), (4, .int (nI i)), (3, .ref ou), (2, .ref y), (1, .ref x), (0, .ref b)]) hx hb dL_law_295 hl (by decide) rfl (fun ls hl => ?_)
  refine lv_aload_n hx hb dL_law_297 rfl (lv_at hl 3 rfl) ?_
  refine lv_aload_n hx hb dL_law_298 rfl (lv_at hl 5 rfl) ?_
  refine lv_iload hx hb dL_law_299 (lv_at hl 1 rfl) ?_
  refine lv_iconst (v := nI 1) hx hb dL_law_301 (by decide) ?_
  refine q_iaddN hx hb dL_law_302 ?_
  refine va_sld hx hb hX hbl0 hbA hS (nI_in (by omega) (by omega)) dL_law_303 ?_
  rw [← es1]
  refine q_callV (rest := []) C (wl_size l D cy N0 hh1 x y ou fo1 gr n S Wo s1 j1 hp hn) kX8_size g1260 g1261 rfl g1262 g4 hP hS hy1 (by first | decide | omega) hl.1 rfl (by decide) (by first | decide | omega) dL_law_304 (fun q ce E h' H1 locs1 hE => hE.elim) (fun v hh2 H locs hq hP hS => ?_)
  obtain ⟨rfl, W2, j2, p2, hcd, hw2⟩ := hq
  have hb2 : W2.2.1 = (Wo).2.1 := congrArg Prod.fst hw2
  obtain ⟨fi2, re2, rc2, rs2, so2, ot2, cn2, la2, hy2⟩ := j2.yo
  refine lv_istore (lv' := [(6, .int ((xs_size S s1).2)), (5, .int ((xs_size S s1).1)), (4, .int (nI i)), (3, .ref ou), (2, .ref y), (1, .ref x), (0, .ref b)]) hx hb dL_law_307 hl (by decide) rfl (fun ls hl => ?_)
  refine lv_aload_n hx hb dL_law_309 rfl (lv_at hl 4 rfl) ?_
  refine q_callV (rest := []) C (c_X8_thrown l D cy N0 hh2 y W2.1.1 W2.1.2.1 W2.1.2.2.1 W2.1.2.2.2.1 W2.1.2.2.2.2.1 fi2 re2 rc2 rs2 so2 ot2 cn2 la2 W2.1.2.2.2.2.2.1 W2.1.2.2.2.2.2.2.1 W2.1.2.2.2.2.2.2.2.1 W2.1.2.2.2.2.2.2.2.2.1 W2.1.2.2.2.2.2.2.2.2.2.1 W2.1.2.2.2.2.2.2.2.2.2.2.1 W2.1.2.2.2.2.2.2.2.2.2.2.2.1 (nI W2.2.1.1) (nI W2.2.2.1) W2.1.2.2.2.2.2.2.2.2.2.2.2.2 hy2) kX8_thrown g1238 g1239 rfl g1240 g4 hP hS hy2 (by first | decide | omega) hl.1 rfl (by decide) (by first | decide | omega) dL_law_310 (fun q ce E h' H1 locs1 hE => hE.elim) (fun v hh3 H locs hq hP hS => ?_)
  obtain ⟨rfl, rfl⟩ := hq
  rw [hcd]
  refine lv_iload hx hb dL_law_313 (lv_at hl 1 rfl) ?_
  refine lv_icmp_eq (tgt := 320) hx hb dL_law_315 (by decide) (fun _ => ?_) (fun c9 => absurd rfl c9)
  refine lv_iload hx hb dL_law_320 (lv_at hl 1 rfl) ?_
  refine lv_if_ne (tgt := 337) hx hb dL_law_322 (by decide) (fun _ => ?_) (fun hk0 => ?_)
  · refine lv_goto (tgt := 2940) hx hb dL_law_337 (by decide) ?_
    exact kend ls H locs _ _ _ fo1 _ W2 j2 p2 (by rw [hb2]; omega) (by rw [hb2]; omega) hP hS (lv_sub hl [2, 3, 4, 5, 6] rfl)
  · refine lv_aload_n hx hb dL_law_325 rfl (lv_at hl 3 rfl) ?_
    refine lv_iconst (v := nI 0) hx hb dL_law_326 (by decide) ?_
    refine q_laldN C hP j2.ouf (by omega) (by omega) dL_law_327 ?_
    refine lv_iload hx hb dL_law_328 (lv_at hl 0 rfl) ?_
    refine lv_i2l hx hb dL_law_330 rfl ?_
    refine W.lcmp hx hb dL_law_331 ?_
    refine lv_if_eq (tgt := 337) hx hb dL_law_332 (by decide) (fun _ => ?_) (fun c9 => absurd ((lg_cmp_eq _ _).mpr (ha1 hk0)) c9)
    refine lv_goto (tgt := 2940) hx hb dL_law_337 (by decide) ?_
    exact kend ls H locs _ _ _ fo1 _ W2 j2 p2 (by rw [hb2]; omega) (by rw [hb2]; omega) hP hS (lv_sub hl [2, 3, 4, 5, 6] rfl)
theorem dL_law_340 : decode cL_law 340 = .ok (.aload_n 1, 1) := by decide +kernel
theorem dL_law_341 : decode cL_law 341 = .ok (.aload_n 0, 1) := by decide +kernel
theorem dL_law_342 : decode cL_law 342 = .ok (.iload 4, 2) := by decide +kernel
theorem dL_law_344 : decode cL_law 344 = .ok (.iconst 1, 1) := by decide +kernel
theorem dL_law_345 : decode cL_law 345 = .ok (.iadd, 1) := by decide +kernel
theorem dL_law_346 : decode cL_law 346 = .ok (.iaload, 1) := by decide +kernel
theorem dL_law_347 : decode cL_law 347 = .ok (.aload_n 3, 1) := by decide +kernel
theorem dL_law_348 : decode cL_law 348 = .ok (.invokestatic 158, 3) := by decide +kernel
theorem dL_law_351 : decode cL_law 351 = .ok (.istore 5, 2) := by decide +kernel
theorem dL_law_353 : decode cL_law 353 = .ok (.aload_n 2, 1) := by decide +kernel
theorem dL_law_354 : decode cL_law 354 = .ok (.aload_n 0, 1) := by decide +kernel
theorem dL_law_355 : decode cL_law 355 = .ok (.iload 4, 2) := by decide +kernel
theorem dL_law_357 : decode cL_law 357 = .ok (.iconst 1, 1) := by decide +kernel
theorem dL_law_358 : decode cL_law 358 = .ok (.iadd, 1) := by decide +kernel
theorem dL_law_359 : decode cL_law 359 = .ok (.iaload, 1) := by decide +kernel
theorem dL_law_360 : decode cL_law 360 = .ok (.invokevirtual 160, 3) := by decide +kernel
theorem dL_law_363 : decode cL_law 363 = .ok (.istore 6, 2) := by decide +kernel
theorem dL_law_365 : decode cL_law 365 = .ok (.aload_n 2, 1) := by decide +kernel
theorem dL_law_366 : decode cL_law 366 = .ok (.invokevirtual 147, 3) := by decide +kernel
theorem dL_law_369 : decode cL_law 369 = .ok (.iload 5, 2) := by decide +kernel
theorem dL_law_371 : decode cL_law 371 = .ok (.if_icmp .eq 5, 3) := by decide +kernel
theorem dL_law_376 : decode cL_law 376 = .ok (.iload 5, 2) := by decide +kernel
theorem dL_law_378 : decode cL_law 378 = .ok (.ifCond .ne 15, 3) := by decide +kernel
theorem dL_law_381 : decode cL_law 381 = .ok (.aload_n 3, 1) := by decide +kernel
theorem dL_law_382 : decode cL_law 382 = .ok (.iconst 0, 1) := by decide +kernel
theorem dL_law_383 : decode cL_law 383 = .ok (.laload, 1) := by decide +kernel
theorem dL_law_384 : decode cL_law 384 = .ok (.iload 6, 2) := by decide +kernel
theorem dL_law_386 : decode cL_law 386 = .ok (.i2l, 1) := by decide +kernel
theorem dL_law_387 : decode cL_law 387 = .ok (.lcmp, 1) := by decide +kernel
theorem dL_law_388 : decode cL_law 388 = .ok (.ifCond .eq 5, 3) := by decide +kernel
theorem dL_law_393 : decode cL_law 393 = .ok (.goto 2547, 3) := by decide +kernel
set_option maxRecDepth 100000 in
set_option maxHeartbeats 4000000 in
theorem lc_kind {p : Program} {l : Launch} {e : Env} {mc ms : Nat} {s : State} {m : MethodId} {below : List Frame} {meth : Method} {c : Code} {H : Heap} {locs : List Loc} {cells slots : Nat} {Q : State → Prop} {rt0 : Option FieldType} {nm0 : String} {D : va_G} {cy : Nat → ClassId} {N0 : Nat} {tb : List ExceptionTableEntry} {h : qH} {ls : Array Slot} {b L : Nat} {xs : Nat → Int32} {x y ou : Nat} {fo : Nat → Int64} {gr : Int32} {n i C1 C2 : Nat} {S : Nat → qSlot} {Wo : qWo} (C : qX p l s m #[Value.ref b] meth c RL cL_law 8 rt0 nm0 D cy N0 tb) (hX : va_X b L xs s s.heap) (hbl0 : b < s.heap.size) (hbA : ¬ qA N0 b) (hP : qP D N0 h H) (hS : va_S (qA N0) s.heap H locs) (hi : i + 7 ≤ L) (hL : L ≤ 449) (hn : n < 64) (j : JZ cy h x y ou fo gr n S Wo S Wo) (hp : PI gr n S Wo) (hc1 : cells ≤ C1 + t1 n + Wo.2.1.1 + qP1 Wo.2.1) (hc2 : slots ≤ C2 + t2 n + 10 * Wo.2.1.1 + qP2 Wo.2.1) (hmc : C1 + 530000 ≤ mc) (hms : C2 + 5520000 ≤ ms) (hl : lv_has ls 8 [(4, .int (nI i)), (3, .ref ou), (2, .ref y), (1, .ref x), (0, .ref b)]) (kend : ∀ (ls : Array Slot) (H : Heap) (locs : List Loc) (c1 c2 : Nat) (h : qH) (fo : Nat → Int64) (S : Nat → qSlot) (Wo : qWo), JZ cy h x y ou fo gr (n + 1) S Wo S Wo → PI gr (n + 1) S Wo → c1 ≤ C1 + t1 (n + 1) + Wo.2.1.1 + qP1 Wo.2.1 → c2 ≤ C2 + t2 (n + 1) + 10 * Wo.2.1.1 + qP2 Wo.2.1 → qP D N0 h H → va_S (qA N0) s.heap H locs → lv_has ls 8 [(4, .int (nI i)), (3, .ref ou), (2, .ref y), (1, .ref x), (0, .ref b)] → W p l e (qR 2048 84000 mc ms) s m #[Value.ref b] below meth c H locs c1 c2 Q (F0 m 2940 ls [])) : W p l e (qR 2048 84000 mc ms) s m #[Value.ref b] below meth c H locs cells slots Q (F0 m 340 ls []) := by
  have hx := C.1
  have hb := C.2.1
  have h1L := t1_le (n + 1) (by omega)
  have h2L := t2_le (n + 1) (by omega)
  have e1L : t1 (n + 1) = t1 n + (1201 + 212 * n) := rfl
  have e2L : t2 (n + 1) = t2 n + (13300 + n * rMs n 7) := rfl
  have hb0 := hp.bnd (by omega)
  refine lv_aload_n hx hb dL_law_340 rfl (lv_at hl 3 rfl) ?_
  refine lv_aload_n hx hb dL_law_341 rfl (lv_at hl 4 rfl) ?_
  refine lv_iload hx hb dL_law_342 (lv_at hl 0 rfl) ?_
  refine lv_iconst (v := nI 1) hx hb dL_law_344 (by decide) ?_
  refine q_iaddN hx hb dL_law_345 ?_
  refine va_sld hx hb hX hbl0 hbA hS (nI_in (by omega) (by omega)) dL_law_346 ?_
  refine lv_topi (fun s1 es1 => ?_)
  refine lv_aload_n hx hb dL_law_347 rfl (lv_at hl 1 rfl) ?_
  have hpK : PI gr (n + 1) (S) (Wo) := hp.up
  have hbK := hpK.bnd (by omega)
  have hmo : MO Wo (Wo) := MO.rf
  have hqm := qP1_mo hmo hb0.2.2.2
  have hm1 := hmo.1
  refine q_callSW (rest := []) C (zl_kind l D cy N0 h x y ou fo gr n S Wo s1 j hp hn) kwL_kind g270 g271 hP hS (by omega) hl.1 rfl (by decide) (by omega) dL_law_348 (fun v hh1 H locs hq hP hS => ?_)
  obtain ⟨rfl, fo1, j1, ha1⟩ := hq
  obtain ⟨fi, re, rc, rs, so, ot, cn, la, hy1⟩ := j1.yo
  refine lv_istore (lv' := [(5, .int ((xs_kind S s1).1)), (4, .int (nI i)), (3, .ref ou), (2, .ref y), (1, .ref x), (0, .ref b)]) hx hb dL_law_351 hl (by decide) rfl (fun ls hl => ?_)
  refine lv_aload_n hx hb dL_law_353 rfl (lv_at hl 3 rfl) ?_
  refine lv_aload_n hx hb dL_law_354 rfl (lv_at hl 5 rfl) ?_
  refine lv_iload hx hb dL_law_355 (lv_at hl 1 rfl) ?_
  refine lv_iconst (v := nI 1) hx hb dL_law_357 (by decide) ?_
  refine q_iaddN hx hb dL_law_358 ?_
  refine va_sld hx hb hX hbl0 hbA hS (nI_in (by omega) (by omega)) dL_law_359 ?_
  rw [← es1]
  refine q_callV (rest := []) C (wl_kind l D cy N0 hh1 x y ou fo1 gr n S Wo s1 j1 hp hn) kX8_kind g1268 g1269 rfl g1270 g4 hP hS hy1 (by first | decide | omega) hl.1 rfl (by decide) (by first | decide | omega) dL_law_360 (fun q ce E h' H1 locs1 hE => hE.elim) (fun v hh2 H locs hq hP hS => ?_)
  obtain ⟨rfl, W2, j2, p2, hcd, hw2⟩ := hq
  have hb2 : W2.2.1 = (Wo).2.1 := congrArg Prod.fst hw2
  obtain ⟨fi2, re2, rc2, rs2, so2, ot2, cn2, la2, hy2⟩ := j2.yo
  refine lv_istore (lv' := [(6, .int ((xs_kind S s1).2)), (5, .int ((xs_kind S s1).1)), (4, .int (nI i)), (3, .ref ou), (2, .ref y), (1, .ref x), (0, .ref b)]) hx hb dL_law_363 hl (by decide) rfl (fun ls hl => ?_)
  refine lv_aload_n hx hb dL_law_365 rfl (lv_at hl 4 rfl) ?_
  refine q_callV (rest := []) C (c_X8_thrown l D cy N0 hh2 y W2.1.1 W2.1.2.1 W2.1.2.2.1 W2.1.2.2.2.1 W2.1.2.2.2.2.1 fi2 re2 rc2 rs2 so2 ot2 cn2 la2 W2.1.2.2.2.2.2.1 W2.1.2.2.2.2.2.2.1 W2.1.2.2.2.2.2.2.2.1 W2.1.2.2.2.2.2.2.2.2.1 W2.1.2.2.2.2.2.2.2.2.2.1 W2.1.2.2.2.2.2.2.2.2.2.2.1 W2.1.2.2.2.2.2.2.2.2.2.2.2.1 (nI W2.2.1.1) (nI W2.2.2.1) W2.1.2.2.2.2.2.2.2.2.2.2.2.2 hy2) kX8_thrown g1238 g1239 rfl g1240 g4 hP hS hy2 (by first | decide | omega) hl.1 rfl (by decide) (by first | decide | omega) dL_law_366 (fun q ce E h' H1 locs1 hE => hE.elim) (fun v hh3 H locs hq hP hS => ?_)
  obtain ⟨rfl, rfl⟩ := hq
  rw [hcd]
  refine lv_iload hx hb dL_law_369 (lv_at hl 1 rfl) ?_
  refine lv_icmp_eq (tgt := 376) hx hb dL_law_371 (by decide) (fun _ => ?_) (fun c9 => absurd rfl c9)
  refine lv_iload hx hb dL_law_376 (lv_at hl 1 rfl) ?_
  refine lv_if_ne (tgt := 393) hx hb dL_law_378 (by decide) (fun _ => ?_) (fun hk0 => ?_)
  · refine lv_goto (tgt := 2940) hx hb dL_law_393 (by decide) ?_
    exact kend ls H locs _ _ _ fo1 _ W2 j2 p2 (by rw [hb2]; omega) (by rw [hb2]; omega) hP hS (lv_sub hl [2, 3, 4, 5, 6] rfl)
  · refine lv_aload_n hx hb dL_law_381 rfl (lv_at hl 3 rfl) ?_
    refine lv_iconst (v := nI 0) hx hb dL_law_382 (by decide) ?_
    refine q_laldN C hP j2.ouf (by omega) (by omega) dL_law_383 ?_
    refine lv_iload hx hb dL_law_384 (lv_at hl 0 rfl) ?_
    refine lv_i2l hx hb dL_law_386 rfl ?_
    refine W.lcmp hx hb dL_law_387 ?_
    refine lv_if_eq (tgt := 393) hx hb dL_law_388 (by decide) (fun _ => ?_) (fun c9 => absurd ((lg_cmp_eq _ _).mpr (ha1 hk0)) c9)
    refine lv_goto (tgt := 2940) hx hb dL_law_393 (by decide) ?_
    exact kend ls H locs _ _ _ fo1 _ W2 j2 p2 (by rw [hb2]; omega) (by rw [hb2]; omega) hP hS (lv_sub hl [2, 3, 4, 5, 6] rfl)
theorem dL_law_396 : decode cL_law 396 = .ok (.aload_n 1, 1) := by decide +kernel
theorem dL_law_397 : decode cL_law 397 = .ok (.aload_n 0, 1) := by decide +kernel
theorem dL_law_398 : decode cL_law 398 = .ok (.iload 4, 2) := by decide +kernel
theorem dL_law_400 : decode cL_law 400 = .ok (.iconst 1, 1) := by decide +kernel
theorem dL_law_401 : decode cL_law 401 = .ok (.iadd, 1) := by decide +kernel
theorem dL_law_402 : decode cL_law 402 = .ok (.iaload, 1) := by decide +kernel
theorem dL_law_403 : decode cL_law 403 = .ok (.aload_n 0, 1) := by decide +kernel
theorem dL_law_404 : decode cL_law 404 = .ok (.iload 4, 2) := by decide +kernel
theorem dL_law_406 : decode cL_law 406 = .ok (.iconst 2, 1) := by decide +kernel
theorem dL_law_407 : decode cL_law 407 = .ok (.iadd, 1) := by decide +kernel
theorem dL_law_408 : decode cL_law 408 = .ok (.iaload, 1) := by decide +kernel
theorem dL_law_409 : decode cL_law 409 = .ok (.aload_n 0, 1) := by decide +kernel
theorem dL_law_410 : decode cL_law 410 = .ok (.iload 4, 2) := by decide +kernel
theorem dL_law_412 : decode cL_law 412 = .ok (.iconst 3, 1) := by decide +kernel
theorem dL_law_413 : decode cL_law 413 = .ok (.iadd, 1) := by decide +kernel
theorem dL_law_414 : decode cL_law 414 = .ok (.iaload, 1) := by decide +kernel
theorem dL_law_415 : decode cL_law 415 = .ok (.i2l, 1) := by decide +kernel
theorem dL_law_416 : decode cL_law 416 = .ok (.bipush 32, 2) := by decide +kernel
theorem dL_law_418 : decode cL_law 418 = .ok (.lshl, 1) := by decide +kernel
theorem dL_law_419 : decode cL_law 419 = .ok (.aload_n 0, 1) := by decide +kernel
theorem dL_law_420 : decode cL_law 420 = .ok (.iload 4, 2) := by decide +kernel
theorem dL_law_422 : decode cL_law 422 = .ok (.iconst 4, 1) := by decide +kernel
theorem dL_law_423 : decode cL_law 423 = .ok (.iadd, 1) := by decide +kernel
theorem dL_law_424 : decode cL_law 424 = .ok (.iaload, 1) := by decide +kernel
theorem dL_law_425 : decode cL_law 425 = .ok (.i2l, 1) := by decide +kernel
theorem dL_law_426 : decode cL_law 426 = .ok (.ldc2_w 161, 3) := by decide +kernel
theorem dL_law_429 : decode cL_law 429 = .ok (.land, 1) := by decide +kernel
theorem dL_law_430 : decode cL_law 430 = .ok (.lor, 1) := by decide +kernel
theorem dL_law_431 : decode cL_law 431 = .ok (.aload_n 3, 1) := by decide +kernel
theorem dL_law_432 : decode cL_law 432 = .ok (.invokestatic 163, 3) := by decide +kernel
theorem dL_law_435 : decode cL_law 435 = .ok (.istore 5, 2) := by decide +kernel
theorem dL_law_437 : decode cL_law 437 = .ok (.aload_n 2, 1) := by decide +kernel
theorem dL_law_438 : decode cL_law 438 = .ok (.aload_n 0, 1) := by decide +kernel
theorem dL_law_439 : decode cL_law 439 = .ok (.iload 4, 2) := by decide +kernel
theorem dL_law_441 : decode cL_law 441 = .ok (.iconst 1, 1) := by decide +kernel
theorem dL_law_442 : decode cL_law 442 = .ok (.iadd, 1) := by decide +kernel
theorem dL_law_443 : decode cL_law 443 = .ok (.iaload, 1) := by decide +kernel
theorem dL_law_444 : decode cL_law 444 = .ok (.aload_n 0, 1) := by decide +kernel
theorem dL_law_445 : decode cL_law 445 = .ok (.iload 4, 2) := by decide +kernel
theorem dL_law_447 : decode cL_law 447 = .ok (.iconst 2, 1) := by decide +kernel
theorem dL_law_448 : decode cL_law 448 = .ok (.iadd, 1) := by decide +kernel
theorem dL_law_449 : decode cL_law 449 = .ok (.iaload, 1) := by decide +kernel
theorem dL_law_450 : decode cL_law 450 = .ok (.aload_n 0, 1) := by decide +kernel
theorem dL_law_451 : decode cL_law 451 = .ok (.iload 4, 2) := by decide +kernel
theorem dL_law_453 : decode cL_law 453 = .ok (.iconst 3, 1) := by decide +kernel
theorem dL_law_454 : decode cL_law 454 = .ok (.iadd, 1) := by decide +kernel
theorem dL_law_455 : decode cL_law 455 = .ok (.iaload, 1) := by decide +kernel
theorem dL_law_456 : decode cL_law 456 = .ok (.i2l, 1) := by decide +kernel
theorem dL_law_457 : decode cL_law 457 = .ok (.bipush 32, 2) := by decide +kernel
theorem dL_law_459 : decode cL_law 459 = .ok (.lshl, 1) := by decide +kernel
theorem dL_law_460 : decode cL_law 460 = .ok (.aload_n 0, 1) := by decide +kernel
theorem dL_law_461 : decode cL_law 461 = .ok (.iload 4, 2) := by decide +kernel
theorem dL_law_463 : decode cL_law 463 = .ok (.iconst 4, 1) := by decide +kernel
theorem dL_law_464 : decode cL_law 464 = .ok (.iadd, 1) := by decide +kernel
theorem dL_law_465 : decode cL_law 465 = .ok (.iaload, 1) := by decide +kernel
theorem dL_law_466 : decode cL_law 466 = .ok (.i2l, 1) := by decide +kernel
theorem dL_law_467 : decode cL_law 467 = .ok (.ldc2_w 161, 3) := by decide +kernel
theorem dL_law_470 : decode cL_law 470 = .ok (.land, 1) := by decide +kernel
theorem dL_law_471 : decode cL_law 471 = .ok (.lor, 1) := by decide +kernel
theorem dL_law_472 : decode cL_law 472 = .ok (.invokevirtual 166, 3) := by decide +kernel
theorem dL_law_475 : decode cL_law 475 = .ok (.istore 6, 2) := by decide +kernel
theorem dL_law_477 : decode cL_law 477 = .ok (.aload_n 2, 1) := by decide +kernel
theorem dL_law_478 : decode cL_law 478 = .ok (.invokevirtual 147, 3) := by decide +kernel
theorem dL_law_481 : decode cL_law 481 = .ok (.iload 5, 2) := by decide +kernel
theorem dL_law_483 : decode cL_law 483 = .ok (.if_icmp .eq 5, 3) := by decide +kernel
theorem dL_law_488 : decode cL_law 488 = .ok (.iload 5, 2) := by decide +kernel
theorem dL_law_490 : decode cL_law 490 = .ok (.ifCond .ne 15, 3) := by decide +kernel
theorem dL_law_493 : decode cL_law 493 = .ok (.aload_n 3, 1) := by decide +kernel
theorem dL_law_494 : decode cL_law 494 = .ok (.iconst 0, 1) := by decide +kernel
theorem dL_law_495 : decode cL_law 495 = .ok (.laload, 1) := by decide +kernel
theorem dL_law_496 : decode cL_law 496 = .ok (.iload 6, 2) := by decide +kernel
theorem dL_law_498 : decode cL_law 498 = .ok (.i2l, 1) := by decide +kernel
theorem dL_law_499 : decode cL_law 499 = .ok (.lcmp, 1) := by decide +kernel
theorem dL_law_500 : decode cL_law 500 = .ok (.ifCond .eq 5, 3) := by decide +kernel
theorem dL_law_505 : decode cL_law 505 = .ok (.goto 2435, 3) := by decide +kernel
set_option maxRecDepth 100000 in
set_option maxHeartbeats 4000000 in
theorem lc_add {p : Program} {l : Launch} {e : Env} {mc ms : Nat} {s : State} {m : MethodId} {below : List Frame} {meth : Method} {c : Code} {H : Heap} {locs : List Loc} {cells slots : Nat} {Q : State → Prop} {rt0 : Option FieldType} {nm0 : String} {D : va_G} {cy : Nat → ClassId} {N0 : Nat} {tb : List ExceptionTableEntry} {h : qH} {ls : Array Slot} {b L : Nat} {xs : Nat → Int32} {x y ou : Nat} {fo : Nat → Int64} {gr : Int32} {n i C1 C2 : Nat} {S : Nat → qSlot} {Wo : qWo} (C : qX p l s m #[Value.ref b] meth c RL cL_law 8 rt0 nm0 D cy N0 tb) (hX : va_X b L xs s s.heap) (hbl0 : b < s.heap.size) (hbA : ¬ qA N0 b) (hP : qP D N0 h H) (hS : va_S (qA N0) s.heap H locs) (hi : i + 7 ≤ L) (hL : L ≤ 449) (hn : n < 64) (j : JZ cy h x y ou fo gr n S Wo S Wo) (hp : PI gr n S Wo) (hc1 : cells ≤ C1 + t1 n + Wo.2.1.1 + qP1 Wo.2.1) (hc2 : slots ≤ C2 + t2 n + 10 * Wo.2.1.1 + qP2 Wo.2.1) (hmc : C1 + 530000 ≤ mc) (hms : C2 + 5520000 ≤ ms) (hl : lv_has ls 8 [(4, .int (nI i)), (3, .ref ou), (2, .ref y), (1, .ref x), (0, .ref b)]) (kend : ∀ (ls : Array Slot) (H : Heap) (locs : List Loc) (c1 c2 : Nat) (h : qH) (fo : Nat → Int64) (S : Nat → qSlot) (Wo : qWo), JZ cy h x y ou fo gr (n + 1) S Wo S Wo → PI gr (n + 1) S Wo → c1 ≤ C1 + t1 (n + 1) + Wo.2.1.1 + qP1 Wo.2.1 → c2 ≤ C2 + t2 (n + 1) + 10 * Wo.2.1.1 + qP2 Wo.2.1 → qP D N0 h H → va_S (qA N0) s.heap H locs → lv_has ls 8 [(4, .int (nI i)), (3, .ref ou), (2, .ref y), (1, .ref x), (0, .ref b)] → W p l e (qR 2048 84000 mc ms) s m #[Value.ref b] below meth c H locs c1 c2 Q (F0 m 2940 ls [])) : W p l e (qR 2048 84000 mc ms) s m #[Value.ref b] below meth c H locs cells slots Q (F0 m 396 ls []) := by
  have hx := C.1
  have hb := C.2.1
  have h1L := t1_le (n + 1) (by omega)
  have h2L := t2_le (n + 1) (by omega)
  have e1L : t1 (n + 1) = t1 n + (1201 + 212 * n) := rfl
  have e2L : t2 (n + 1) = t2 n + (13300 + n * rMs n 7) := rfl
  have hb0 := hp.bnd (by omega)
  refine lv_aload_n hx hb dL_law_396 rfl (lv_at hl 3 rfl) ?_
  refine lv_aload_n hx hb dL_law_397 rfl (lv_at hl 4 rfl) ?_
  refine lv_iload hx hb dL_law_398 (lv_at hl 0 rfl) ?_
  refine lv_iconst (v := nI 1) hx hb dL_law_400 (by decide) ?_
  refine q_iaddN hx hb dL_law_401 ?_
  refine va_sld hx hb hX hbl0 hbA hS (nI_in (by omega) (by omega)) dL_law_402 ?_
  refine lv_topi (fun s1 es1 => ?_)
  refine lv_aload_n hx hb dL_law_403 rfl (lv_at hl 4 rfl) ?_
  refine lv_iload hx hb dL_law_404 (lv_at hl 0 rfl) ?_
  refine lv_iconst (v := nI 2) hx hb dL_law_406 (by decide) ?_
  refine q_iaddN hx hb dL_law_407 ?_
  refine va_sld hx hb hX hbl0 hbA hS (nI_in (by omega) (by omega)) dL_law_408 ?_
  refine lv_topi (fun s2 es2 => ?_)
  refine lv_aload_n hx hb dL_law_409 rfl (lv_at hl 4 rfl) ?_
  refine lv_iload hx hb dL_law_410 (lv_at hl 0 rfl) ?_
  refine lv_iconst (v := nI 3) hx hb dL_law_412 (by decide) ?_
  refine q_iaddN hx hb dL_law_413 ?_
  refine va_sld hx hb hX hbl0 hbA hS (nI_in (by omega) (by omega)) dL_law_414 ?_
  refine lv_topi (fun s3 es3 => ?_)
  refine lv_i2l hx hb dL_law_415 rfl ?_
  refine lv_bipush (v := nI 32) hx hb dL_law_416 (by decide) ?_
  refine lv_lshl hx hb dL_law_418 rfl ?_
  refine lv_aload_n hx hb dL_law_419 rfl (lv_at hl 4 rfl) ?_
  refine lv_iload hx hb dL_law_420 (lv_at hl 0 rfl) ?_
  refine lv_iconst (v := nI 4) hx hb dL_law_422 (by decide) ?_
  refine q_iaddN hx hb dL_law_423 ?_
  refine va_sld hx hb hX hbl0 hbA hS (nI_in (by omega) (by omega)) dL_law_424 ?_
  refine lv_topi (fun s4 es4 => ?_)
  refine lv_i2l hx hb dL_law_425 rfl ?_
  refine lv_ldc2 hx hb C.2.2.2.2.1 (C.2.2.2.2.2.1 _ g1484) dL_law_426 ?_
  refine lv_land hx hb dL_law_429 ?_
  refine lv_lor hx hb dL_law_430 ?_
  refine lv_topl (fun q3 eq3 => ?_)
  refine lv_aload_n hx hb dL_law_431 rfl (lv_at hl 1 rfl) ?_
  have hpK : PI gr (n + 1) ((xs_add gr S s1 s2 q3).2.1) (Wo) := hp.add
  have hbK := hpK.bnd (by omega)
  have hmo : MO Wo (Wo) := MO.rf
  have hqm := qP1_mo hmo hb0.2.2.2
  have hm1 := hmo.1
  refine q_callSW (rest := []) C (zl_add l D cy N0 h x y ou fo gr n S Wo s1 s2 q3 j hp hn) kwL_add g277 g278 hP hS (by omega) hl.1 rfl (by decide) (by omega) dL_law_432 (fun v hh1 H locs hq hP hS => ?_)
  obtain ⟨rfl, fo1, j1, ha1⟩ := hq
  obtain ⟨fi, re, rc, rs, so, ot, cn, la, hy1⟩ := j1.yo
  refine lv_istore (lv' := [(5, .int ((xs_add gr S s1 s2 q3).1)), (4, .int (nI i)), (3, .ref ou), (2, .ref y), (1, .ref x), (0, .ref b)]) hx hb dL_law_435 hl (by decide) rfl (fun ls hl => ?_)
  refine lv_aload_n hx hb dL_law_437 rfl (lv_at hl 3 rfl) ?_
  refine lv_aload_n hx hb dL_law_438 rfl (lv_at hl 5 rfl) ?_
  refine lv_iload hx hb dL_law_439 (lv_at hl 1 rfl) ?_
  refine lv_iconst (v := nI 1) hx hb dL_law_441 (by decide) ?_
  refine q_iaddN hx hb dL_law_442 ?_
  refine va_sld hx hb hX hbl0 hbA hS (nI_in (by omega) (by omega)) dL_law_443 ?_
  rw [← es1]
  refine lv_aload_n hx hb dL_law_444 rfl (lv_at hl 5 rfl) ?_
  refine lv_iload hx hb dL_law_445 (lv_at hl 1 rfl) ?_
  refine lv_iconst (v := nI 2) hx hb dL_law_447 (by decide) ?_
  refine q_iaddN hx hb dL_law_448 ?_
  refine va_sld hx hb hX hbl0 hbA hS (nI_in (by omega) (by omega)) dL_law_449 ?_
  rw [← es2]
  refine lv_aload_n hx hb dL_law_450 rfl (lv_at hl 5 rfl) ?_
  refine lv_iload hx hb dL_law_451 (lv_at hl 1 rfl) ?_
  refine lv_iconst (v := nI 3) hx hb dL_law_453 (by decide) ?_
  refine q_iaddN hx hb dL_law_454 ?_
  refine va_sld hx hb hX hbl0 hbA hS (nI_in (by omega) (by omega)) dL_law_455 ?_
  rw [← es3]
  refine lv_i2l hx hb dL_law_456 rfl ?_
  refine lv_bipush (v := nI 32) hx hb dL_law_457 (by decide) ?_
  refine lv_lshl hx hb dL_law_459 rfl ?_
  refine lv_aload_n hx hb dL_law_460 rfl (lv_at hl 5 rfl) ?_
  refine lv_iload hx hb dL_law_461 (lv_at hl 1 rfl) ?_
  refine lv_iconst (v := nI 4) hx hb dL_law_463 (by decide) ?_
  refine q_iaddN hx hb dL_law_464 ?_
  refine va_sld hx hb hX hbl0 hbA hS (nI_in (by omega) (by omega)) dL_law_465 ?_
  rw [← es4]
  refine lv_i2l hx hb dL_law_466 rfl ?_
  refine lv_ldc2 hx hb C.2.2.2.2.1 (C.2.2.2.2.2.1 _ g1484) dL_law_467 ?_
  refine lv_land hx hb dL_law_470 ?_
  refine lv_lor hx hb dL_law_471 ?_
  rw [← eq3]
  refine q_callV (rest := []) C (wl_add l D cy N0 hh1 x y ou fo1 gr n S Wo s1 s2 q3 j1 hp hn) kX8_add g1272 g1273 rfl g1274 g4 hP hS hy1 (by first | decide | omega) hl.1 rfl (by decide) (by first | decide | omega) dL_law_472 (fun q ce E h' H1 locs1 hE => hE.elim) (fun v hh2 H locs hq hP hS => ?_)
  obtain ⟨rfl, W2, j2, p2, hcd, hw2⟩ := hq
  have hb2 : W2.2.1 = (Wo).2.1 := congrArg Prod.fst hw2
  obtain ⟨fi2, re2, rc2, rs2, so2, ot2, cn2, la2, hy2⟩ := j2.yo
  refine lv_istore (lv' := [(6, .int ((xs_add gr S s1 s2 q3).2.2)), (5, .int ((xs_add gr S s1 s2 q3).1)), (4, .int (nI i)), (3, .ref ou), (2, .ref y), (1, .ref x), (0, .ref b)]) hx hb dL_law_475 hl (by decide) rfl (fun ls hl => ?_)
  refine lv_aload_n hx hb dL_law_477 rfl (lv_at hl 4 rfl) ?_
  refine q_callV (rest := []) C (c_X8_thrown l D cy N0 hh2 y W2.1.1 W2.1.2.1 W2.1.2.2.1 W2.1.2.2.2.1 W2.1.2.2.2.2.1 fi2 re2 rc2 rs2 so2 ot2 cn2 la2 W2.1.2.2.2.2.2.1 W2.1.2.2.2.2.2.2.1 W2.1.2.2.2.2.2.2.2.1 W2.1.2.2.2.2.2.2.2.2.1 W2.1.2.2.2.2.2.2.2.2.2.1 W2.1.2.2.2.2.2.2.2.2.2.2.1 W2.1.2.2.2.2.2.2.2.2.2.2.2.1 (nI W2.2.1.1) (nI W2.2.2.1) W2.1.2.2.2.2.2.2.2.2.2.2.2.2 hy2) kX8_thrown g1238 g1239 rfl g1240 g4 hP hS hy2 (by first | decide | omega) hl.1 rfl (by decide) (by first | decide | omega) dL_law_478 (fun q ce E h' H1 locs1 hE => hE.elim) (fun v hh3 H locs hq hP hS => ?_)
  obtain ⟨rfl, rfl⟩ := hq
  rw [hcd]
  refine lv_iload hx hb dL_law_481 (lv_at hl 1 rfl) ?_
  refine lv_icmp_eq (tgt := 488) hx hb dL_law_483 (by decide) (fun _ => ?_) (fun c9 => absurd rfl c9)
  refine lv_iload hx hb dL_law_488 (lv_at hl 1 rfl) ?_
  refine lv_if_ne (tgt := 505) hx hb dL_law_490 (by decide) (fun _ => ?_) (fun hk0 => ?_)
  · refine lv_goto (tgt := 2940) hx hb dL_law_505 (by decide) ?_
    exact kend ls H locs _ _ _ fo1 _ W2 j2 p2 (by rw [hb2]; omega) (by rw [hb2]; omega) hP hS (lv_sub hl [2, 3, 4, 5, 6] rfl)
  · refine lv_aload_n hx hb dL_law_493 rfl (lv_at hl 3 rfl) ?_
    refine lv_iconst (v := nI 0) hx hb dL_law_494 (by decide) ?_
    refine q_laldN C hP j2.ouf (by omega) (by omega) dL_law_495 ?_
    refine lv_iload hx hb dL_law_496 (lv_at hl 0 rfl) ?_
    refine lv_i2l hx hb dL_law_498 rfl ?_
    refine W.lcmp hx hb dL_law_499 ?_
    refine lv_if_eq (tgt := 505) hx hb dL_law_500 (by decide) (fun _ => ?_) (fun c9 => absurd ((lg_cmp_eq _ _).mpr (ha1 hk0)) c9)
    refine lv_goto (tgt := 2940) hx hb dL_law_505 (by decide) ?_
    exact kend ls H locs _ _ _ fo1 _ W2 j2 p2 (by rw [hb2]; omega) (by rw [hb2]; omega) hP hS (lv_sub hl [2, 3, 4, 5, 6] rfl)
theorem dL_law_508 : decode cL_law 508 = .ok (.aload_n 1, 1) := by decide +kernel
theorem dL_law_509 : decode cL_law 509 = .ok (.aload_n 0, 1) := by decide +kernel
theorem dL_law_510 : decode cL_law 510 = .ok (.iload 4, 2) := by decide +kernel
theorem dL_law_512 : decode cL_law 512 = .ok (.iconst 1, 1) := by decide +kernel
theorem dL_law_513 : decode cL_law 513 = .ok (.iadd, 1) := by decide +kernel
theorem dL_law_514 : decode cL_law 514 = .ok (.iaload, 1) := by decide +kernel
theorem dL_law_515 : decode cL_law 515 = .ok (.aload_n 0, 1) := by decide +kernel
theorem dL_law_516 : decode cL_law 516 = .ok (.iload 4, 2) := by decide +kernel
theorem dL_law_518 : decode cL_law 518 = .ok (.iconst 2, 1) := by decide +kernel
theorem dL_law_519 : decode cL_law 519 = .ok (.iadd, 1) := by decide +kernel
theorem dL_law_520 : decode cL_law 520 = .ok (.iaload, 1) := by decide +kernel
theorem dL_law_521 : decode cL_law 521 = .ok (.aload_n 0, 1) := by decide +kernel
theorem dL_law_522 : decode cL_law 522 = .ok (.iload 4, 2) := by decide +kernel
theorem dL_law_524 : decode cL_law 524 = .ok (.iconst 3, 1) := by decide +kernel
theorem dL_law_525 : decode cL_law 525 = .ok (.iadd, 1) := by decide +kernel
theorem dL_law_526 : decode cL_law 526 = .ok (.iaload, 1) := by decide +kernel
theorem dL_law_527 : decode cL_law 527 = .ok (.i2l, 1) := by decide +kernel
theorem dL_law_528 : decode cL_law 528 = .ok (.bipush 32, 2) := by decide +kernel
theorem dL_law_530 : decode cL_law 530 = .ok (.lshl, 1) := by decide +kernel
theorem dL_law_531 : decode cL_law 531 = .ok (.aload_n 0, 1) := by decide +kernel
theorem dL_law_532 : decode cL_law 532 = .ok (.iload 4, 2) := by decide +kernel
theorem dL_law_534 : decode cL_law 534 = .ok (.iconst 4, 1) := by decide +kernel
theorem dL_law_535 : decode cL_law 535 = .ok (.iadd, 1) := by decide +kernel
theorem dL_law_536 : decode cL_law 536 = .ok (.iaload, 1) := by decide +kernel
theorem dL_law_537 : decode cL_law 537 = .ok (.i2l, 1) := by decide +kernel
theorem dL_law_538 : decode cL_law 538 = .ok (.ldc2_w 161, 3) := by decide +kernel
theorem dL_law_541 : decode cL_law 541 = .ok (.land, 1) := by decide +kernel
theorem dL_law_542 : decode cL_law 542 = .ok (.lor, 1) := by decide +kernel
theorem dL_law_543 : decode cL_law 543 = .ok (.invokestatic 167, 3) := by decide +kernel
theorem dL_law_546 : decode cL_law 546 = .ok (.istore 5, 2) := by decide +kernel
theorem dL_law_548 : decode cL_law 548 = .ok (.aload_n 2, 1) := by decide +kernel
theorem dL_law_549 : decode cL_law 549 = .ok (.aload_n 0, 1) := by decide +kernel
theorem dL_law_550 : decode cL_law 550 = .ok (.iload 4, 2) := by decide +kernel
theorem dL_law_552 : decode cL_law 552 = .ok (.iconst 1, 1) := by decide +kernel
theorem dL_law_553 : decode cL_law 553 = .ok (.iadd, 1) := by decide +kernel
theorem dL_law_554 : decode cL_law 554 = .ok (.iaload, 1) := by decide +kernel
theorem dL_law_555 : decode cL_law 555 = .ok (.aload_n 0, 1) := by decide +kernel
theorem dL_law_556 : decode cL_law 556 = .ok (.iload 4, 2) := by decide +kernel
theorem dL_law_558 : decode cL_law 558 = .ok (.iconst 2, 1) := by decide +kernel
theorem dL_law_559 : decode cL_law 559 = .ok (.iadd, 1) := by decide +kernel
theorem dL_law_560 : decode cL_law 560 = .ok (.iaload, 1) := by decide +kernel
theorem dL_law_561 : decode cL_law 561 = .ok (.aload_n 0, 1) := by decide +kernel
theorem dL_law_562 : decode cL_law 562 = .ok (.iload 4, 2) := by decide +kernel
theorem dL_law_564 : decode cL_law 564 = .ok (.iconst 3, 1) := by decide +kernel
theorem dL_law_565 : decode cL_law 565 = .ok (.iadd, 1) := by decide +kernel
theorem dL_law_566 : decode cL_law 566 = .ok (.iaload, 1) := by decide +kernel
theorem dL_law_567 : decode cL_law 567 = .ok (.i2l, 1) := by decide +kernel
theorem dL_law_568 : decode cL_law 568 = .ok (.bipush 32, 2) := by decide +kernel
theorem dL_law_570 : decode cL_law 570 = .ok (.lshl, 1) := by decide +kernel
theorem dL_law_571 : decode cL_law 571 = .ok (.aload_n 0, 1) := by decide +kernel
theorem dL_law_572 : decode cL_law 572 = .ok (.iload 4, 2) := by decide +kernel
theorem dL_law_574 : decode cL_law 574 = .ok (.iconst 4, 1) := by decide +kernel
theorem dL_law_575 : decode cL_law 575 = .ok (.iadd, 1) := by decide +kernel
theorem dL_law_576 : decode cL_law 576 = .ok (.iaload, 1) := by decide +kernel
theorem dL_law_577 : decode cL_law 577 = .ok (.i2l, 1) := by decide +kernel
theorem dL_law_578 : decode cL_law 578 = .ok (.ldc2_w 161, 3) := by decide +kernel
theorem dL_law_581 : decode cL_law 581 = .ok (.land, 1) := by decide +kernel
theorem dL_law_582 : decode cL_law 582 = .ok (.lor, 1) := by decide +kernel
theorem dL_law_583 : decode cL_law 583 = .ok (.invokevirtual 170, 3) := by decide +kernel
theorem dL_law_586 : decode cL_law 586 = .ok (.aload_n 2, 1) := by decide +kernel
theorem dL_law_587 : decode cL_law 587 = .ok (.invokevirtual 147, 3) := by decide +kernel
theorem dL_law_590 : decode cL_law 590 = .ok (.iload 5, 2) := by decide +kernel
theorem dL_law_592 : decode cL_law 592 = .ok (.if_icmp .eq 5, 3) := by decide +kernel
theorem dL_law_597 : decode cL_law 597 = .ok (.goto 2343, 3) := by decide +kernel
set_option maxRecDepth 100000 in
set_option maxHeartbeats 4000000 in
theorem lc_push {p : Program} {l : Launch} {e : Env} {mc ms : Nat} {s : State} {m : MethodId} {below : List Frame} {meth : Method} {c : Code} {H : Heap} {locs : List Loc} {cells slots : Nat} {Q : State → Prop} {rt0 : Option FieldType} {nm0 : String} {D : va_G} {cy : Nat → ClassId} {N0 : Nat} {tb : List ExceptionTableEntry} {h : qH} {ls : Array Slot} {b L : Nat} {xs : Nat → Int32} {x y ou : Nat} {fo : Nat → Int64} {gr : Int32} {n i C1 C2 : Nat} {S : Nat → qSlot} {Wo : qWo} (C : qX p l s m #[Value.ref b] meth c RL cL_law 8 rt0 nm0 D cy N0 tb) (hX : va_X b L xs s s.heap) (hbl0 : b < s.heap.size) (hbA : ¬ qA N0 b) (hP : qP D N0 h H) (hS : va_S (qA N0) s.heap H locs) (hi : i + 7 ≤ L) (hL : L ≤ 449) (hn : n < 64) (j : JZ cy h x y ou fo gr n S Wo S Wo) (hp : PI gr n S Wo) (hc1 : cells ≤ C1 + t1 n + Wo.2.1.1 + qP1 Wo.2.1) (hc2 : slots ≤ C2 + t2 n + 10 * Wo.2.1.1 + qP2 Wo.2.1) (hmc : C1 + 530000 ≤ mc) (hms : C2 + 5520000 ≤ ms) (hl : lv_has ls 8 [(4, .int (nI i)), (3, .ref ou), (2, .ref y), (1, .ref x), (0, .ref b)]) (kend : ∀ (ls : Array Slot) (H : Heap) (locs : List Loc) (c1 c2 : Nat) (h : qH) (fo : Nat → Int64) (S : Nat → qSlot) (Wo : qWo), JZ cy h x y ou fo gr (n + 1) S Wo S Wo → PI gr (n + 1) S Wo → c1 ≤ C1 + t1 (n + 1) + Wo.2.1.1 + qP1 Wo.2.1 → c2 ≤ C2 + t2 (n + 1) + 10 * Wo.2.1.1 + qP2 Wo.2.1 → qP D N0 h H → va_S (qA N0) s.heap H locs → lv_has ls 8 [(4, .int (nI i)), (3, .ref ou), (2, .ref y), (1, .ref x), (0, .ref b)] → W p l e (qR 2048 84000 mc ms) s m #[Value.ref b] below meth c H locs c1 c2 Q (F0 m 2940 ls [])) : W p l e (qR 2048 84000 mc ms) s m #[Value.ref b] below meth c H locs cells slots Q (F0 m 508 ls []) := by
  have hx := C.1
  have hb := C.2.1
  have h1L := t1_le (n + 1) (by omega)
  have h2L := t2_le (n + 1) (by omega)
  have e1L : t1 (n + 1) = t1 n + (1201 + 212 * n) := rfl
  have e2L : t2 (n + 1) = t2 n + (13300 + n * rMs n 7) := rfl
  have hb0 := hp.bnd (by omega)
  refine lv_aload_n hx hb dL_law_508 rfl (lv_at hl 3 rfl) ?_
  refine lv_aload_n hx hb dL_law_509 rfl (lv_at hl 4 rfl) ?_
  refine lv_iload hx hb dL_law_510 (lv_at hl 0 rfl) ?_
  refine lv_iconst (v := nI 1) hx hb dL_law_512 (by decide) ?_
  refine q_iaddN hx hb dL_law_513 ?_
  refine va_sld hx hb hX hbl0 hbA hS (nI_in (by omega) (by omega)) dL_law_514 ?_
  refine lv_topi (fun s1 es1 => ?_)
  refine lv_aload_n hx hb dL_law_515 rfl (lv_at hl 4 rfl) ?_
  refine lv_iload hx hb dL_law_516 (lv_at hl 0 rfl) ?_
  refine lv_iconst (v := nI 2) hx hb dL_law_518 (by decide) ?_
  refine q_iaddN hx hb dL_law_519 ?_
  refine va_sld hx hb hX hbl0 hbA hS (nI_in (by omega) (by omega)) dL_law_520 ?_
  refine lv_topi (fun s2 es2 => ?_)
  refine lv_aload_n hx hb dL_law_521 rfl (lv_at hl 4 rfl) ?_
  refine lv_iload hx hb dL_law_522 (lv_at hl 0 rfl) ?_
  refine lv_iconst (v := nI 3) hx hb dL_law_524 (by decide) ?_
  refine q_iaddN hx hb dL_law_525 ?_
  refine va_sld hx hb hX hbl0 hbA hS (nI_in (by omega) (by omega)) dL_law_526 ?_
  refine lv_topi (fun s3 es3 => ?_)
  refine lv_i2l hx hb dL_law_527 rfl ?_
  refine lv_bipush (v := nI 32) hx hb dL_law_528 (by decide) ?_
  refine lv_lshl hx hb dL_law_530 rfl ?_
  refine lv_aload_n hx hb dL_law_531 rfl (lv_at hl 4 rfl) ?_
  refine lv_iload hx hb dL_law_532 (lv_at hl 0 rfl) ?_
  refine lv_iconst (v := nI 4) hx hb dL_law_534 (by decide) ?_
  refine q_iaddN hx hb dL_law_535 ?_
  refine va_sld hx hb hX hbl0 hbA hS (nI_in (by omega) (by omega)) dL_law_536 ?_
  refine lv_topi (fun s4 es4 => ?_)
  refine lv_i2l hx hb dL_law_537 rfl ?_
  refine lv_ldc2 hx hb C.2.2.2.2.1 (C.2.2.2.2.2.1 _ g1484) dL_law_538 ?_
  refine lv_land hx hb dL_law_541 ?_
  refine lv_lor hx hb dL_law_542 ?_
  refine lv_topl (fun q3 eq3 => ?_)
  have hpK : PI gr (n + 1) ((xs_push S Wo s1 s2 q3).2.1) ((xs_push S Wo s1 s2 q3).2.2) := hp.push
  have hbK := hpK.bnd (by omega)
  have hmo : MO Wo ((xs_push S Wo s1 s2 q3).2.2) := mo_push
  have hqm := qP1_mo hmo hb0.2.2.2
  have hm1 := hmo.1
  refine q_callSW (rest := []) C (zl_push l D cy N0 h x y ou fo gr n S Wo s1 s2 q3 j hp hn) kwL_push g519 g520 hP hS (by omega) hl.1 rfl (by decide) (by omega) dL_law_543 (fun v hh1 H locs hq hP hS => ?_)
  obtain ⟨rfl, j1⟩ := hq
  obtain ⟨fi, re, rc, rs, so, ot, cn, la, hy1⟩ := j1.yo
  refine lv_istore (lv' := [(5, .int ((xs_push S Wo s1 s2 q3).1)), (4, .int (nI i)), (3, .ref ou), (2, .ref y), (1, .ref x), (0, .ref b)]) hx hb dL_law_546 hl (by decide) rfl (fun ls hl => ?_)
  refine lv_aload_n hx hb dL_law_548 rfl (lv_at hl 3 rfl) ?_
  refine lv_aload_n hx hb dL_law_549 rfl (lv_at hl 5 rfl) ?_
  refine lv_iload hx hb dL_law_550 (lv_at hl 1 rfl) ?_
  refine lv_iconst (v := nI 1) hx hb dL_law_552 (by decide) ?_
  refine q_iaddN hx hb dL_law_553 ?_
  refine va_sld hx hb hX hbl0 hbA hS (nI_in (by omega) (by omega)) dL_law_554 ?_
  rw [← es1]
  refine lv_aload_n hx hb dL_law_555 rfl (lv_at hl 5 rfl) ?_
  refine lv_iload hx hb dL_law_556 (lv_at hl 1 rfl) ?_
  refine lv_iconst (v := nI 2) hx hb dL_law_558 (by decide) ?_
  refine q_iaddN hx hb dL_law_559 ?_
  refine va_sld hx hb hX hbl0 hbA hS (nI_in (by omega) (by omega)) dL_law_560 ?_
  rw [← es2]
  refine lv_aload_n hx hb dL_law_561 rfl (lv_at hl 5 rfl) ?_
  refine lv_iload hx hb dL_law_562 (lv_at hl 1 rfl) ?_
  refine lv_iconst (v := nI 3) hx hb dL_law_564 (by decide) ?_
  refine q_iaddN hx hb dL_law_565 ?_
  refine va_sld hx hb hX hbl0 hbA hS (nI_in (by omega) (by omega)) dL_law_566 ?_
  rw [← es3]
  refine lv_i2l hx hb dL_law_567 rfl ?_
  refine lv_bipush (v := nI 32) hx hb dL_law_568 (by decide) ?_
  refine lv_lshl hx hb dL_law_570 rfl ?_
  refine lv_aload_n hx hb dL_law_571 rfl (lv_at hl 5 rfl) ?_
  refine lv_iload hx hb dL_law_572 (lv_at hl 1 rfl) ?_
  refine lv_iconst (v := nI 4) hx hb dL_law_574 (by decide) ?_
  refine q_iaddN hx hb dL_law_575 ?_
  refine va_sld hx hb hX hbl0 hbA hS (nI_in (by omega) (by omega)) dL_law_576 ?_
  rw [← es4]
  refine lv_i2l hx hb dL_law_577 rfl ?_
  refine lv_ldc2 hx hb C.2.2.2.2.1 (C.2.2.2.2.2.1 _ g1484) dL_law_578 ?_
  refine lv_land hx hb dL_law_581 ?_
  refine lv_lor hx hb dL_law_582 ?_
  rw [← eq3]
  refine q_callV (rest := []) C (wl_push l D cy N0 hh1 x y ou fo gr n S Wo s1 s2 q3 j1 hp hn) kX8_push g1297 g1298 rfl g1299 g4 hP hS hy1 (by first | decide | omega) hl.1 rfl (by decide) (by first | decide | omega) dL_law_583 (fun q ce E h' H1 locs1 hE => hE.elim) (fun v hh2 H locs hq hP hS => ?_)
  obtain ⟨rfl, W2, j2, p2, hcd, hw2⟩ := hq
  have hb2 : W2.2.1 = ((xs_push S Wo s1 s2 q3).2.2).2.1 := congrArg Prod.fst hw2
  obtain ⟨fi2, re2, rc2, rs2, so2, ot2, cn2, la2, hy2⟩ := j2.yo
  refine lv_aload_n hx hb dL_law_586 rfl (lv_at hl 3 rfl) ?_
  refine q_callV (rest := []) C (c_X8_thrown l D cy N0 hh2 y W2.1.1 W2.1.2.1 W2.1.2.2.1 W2.1.2.2.2.1 W2.1.2.2.2.2.1 fi2 re2 rc2 rs2 so2 ot2 cn2 la2 W2.1.2.2.2.2.2.1 W2.1.2.2.2.2.2.2.1 W2.1.2.2.2.2.2.2.2.1 W2.1.2.2.2.2.2.2.2.2.1 W2.1.2.2.2.2.2.2.2.2.2.1 W2.1.2.2.2.2.2.2.2.2.2.2.1 W2.1.2.2.2.2.2.2.2.2.2.2.2.1 (nI W2.2.1.1) (nI W2.2.2.1) W2.1.2.2.2.2.2.2.2.2.2.2.2.2 hy2) kX8_thrown g1238 g1239 rfl g1240 g4 hP hS hy2 (by first | decide | omega) hl.1 rfl (by decide) (by first | decide | omega) dL_law_587 (fun q ce E h' H1 locs1 hE => hE.elim) (fun v hh3 H locs hq hP hS => ?_)
  obtain ⟨rfl, rfl⟩ := hq
  rw [hcd]
  refine lv_iload hx hb dL_law_590 (lv_at hl 0 rfl) ?_
  refine lv_icmp_eq (tgt := 597) hx hb dL_law_592 (by decide) (fun _ => ?_) (fun c9 => absurd rfl c9)
  refine lv_goto (tgt := 2940) hx hb dL_law_597 (by decide) ?_
  exact kend ls H locs _ _ _ fo _ W2 j2 p2 (by rw [hb2]; omega) (by rw [hb2]; omega) hP hS (lv_sub hl [1, 2, 3, 4, 5] rfl)
theorem dL_law_600 : decode cL_law 600 = .ok (.aload_n 1, 1) := by decide +kernel
theorem dL_law_601 : decode cL_law 601 = .ok (.aload_n 0, 1) := by decide +kernel
theorem dL_law_602 : decode cL_law 602 = .ok (.iload 4, 2) := by decide +kernel
theorem dL_law_604 : decode cL_law 604 = .ok (.iconst 1, 1) := by decide +kernel
theorem dL_law_605 : decode cL_law 605 = .ok (.iadd, 1) := by decide +kernel
theorem dL_law_606 : decode cL_law 606 = .ok (.iaload, 1) := by decide +kernel
theorem dL_law_607 : decode cL_law 607 = .ok (.aload_n 0, 1) := by decide +kernel
theorem dL_law_608 : decode cL_law 608 = .ok (.iload 4, 2) := by decide +kernel
theorem dL_law_610 : decode cL_law 610 = .ok (.iconst 2, 1) := by decide +kernel
theorem dL_law_611 : decode cL_law 611 = .ok (.iadd, 1) := by decide +kernel
theorem dL_law_612 : decode cL_law 612 = .ok (.iaload, 1) := by decide +kernel
theorem dL_law_613 : decode cL_law 613 = .ok (.aload_n 0, 1) := by decide +kernel
theorem dL_law_614 : decode cL_law 614 = .ok (.iload 4, 2) := by decide +kernel
theorem dL_law_616 : decode cL_law 616 = .ok (.iconst 3, 1) := by decide +kernel
theorem dL_law_617 : decode cL_law 617 = .ok (.iadd, 1) := by decide +kernel
theorem dL_law_618 : decode cL_law 618 = .ok (.iaload, 1) := by decide +kernel
theorem dL_law_619 : decode cL_law 619 = .ok (.aload_n 0, 1) := by decide +kernel
theorem dL_law_620 : decode cL_law 620 = .ok (.iload 4, 2) := by decide +kernel
theorem dL_law_622 : decode cL_law 622 = .ok (.iconst 4, 1) := by decide +kernel
theorem dL_law_623 : decode cL_law 623 = .ok (.iadd, 1) := by decide +kernel
theorem dL_law_624 : decode cL_law 624 = .ok (.iaload, 1) := by decide +kernel
theorem dL_law_625 : decode cL_law 625 = .ok (.i2l, 1) := by decide +kernel
theorem dL_law_626 : decode cL_law 626 = .ok (.bipush 32, 2) := by decide +kernel
theorem dL_law_628 : decode cL_law 628 = .ok (.lshl, 1) := by decide +kernel
theorem dL_law_629 : decode cL_law 629 = .ok (.aload_n 0, 1) := by decide +kernel
theorem dL_law_630 : decode cL_law 630 = .ok (.iload 4, 2) := by decide +kernel
theorem dL_law_632 : decode cL_law 632 = .ok (.iconst 5, 1) := by decide +kernel
theorem dL_law_633 : decode cL_law 633 = .ok (.iadd, 1) := by decide +kernel
theorem dL_law_634 : decode cL_law 634 = .ok (.iaload, 1) := by decide +kernel
theorem dL_law_635 : decode cL_law 635 = .ok (.i2l, 1) := by decide +kernel
theorem dL_law_636 : decode cL_law 636 = .ok (.ldc2_w 161, 3) := by decide +kernel
theorem dL_law_639 : decode cL_law 639 = .ok (.land, 1) := by decide +kernel
theorem dL_law_640 : decode cL_law 640 = .ok (.lor, 1) := by decide +kernel
theorem dL_law_641 : decode cL_law 641 = .ok (.aload_n 3, 1) := by decide +kernel
theorem dL_law_642 : decode cL_law 642 = .ok (.invokestatic 171, 3) := by decide +kernel
theorem dL_law_645 : decode cL_law 645 = .ok (.istore 5, 2) := by decide +kernel
theorem dL_law_647 : decode cL_law 647 = .ok (.aload_n 2, 1) := by decide +kernel
theorem dL_law_648 : decode cL_law 648 = .ok (.aload_n 0, 1) := by decide +kernel
theorem dL_law_649 : decode cL_law 649 = .ok (.iload 4, 2) := by decide +kernel
theorem dL_law_651 : decode cL_law 651 = .ok (.iconst 1, 1) := by decide +kernel
theorem dL_law_652 : decode cL_law 652 = .ok (.iadd, 1) := by decide +kernel
theorem dL_law_653 : decode cL_law 653 = .ok (.iaload, 1) := by decide +kernel
theorem dL_law_654 : decode cL_law 654 = .ok (.aload_n 0, 1) := by decide +kernel
theorem dL_law_655 : decode cL_law 655 = .ok (.iload 4, 2) := by decide +kernel
theorem dL_law_657 : decode cL_law 657 = .ok (.iconst 2, 1) := by decide +kernel
theorem dL_law_658 : decode cL_law 658 = .ok (.iadd, 1) := by decide +kernel
theorem dL_law_659 : decode cL_law 659 = .ok (.iaload, 1) := by decide +kernel
theorem dL_law_660 : decode cL_law 660 = .ok (.aload_n 0, 1) := by decide +kernel
theorem dL_law_661 : decode cL_law 661 = .ok (.iload 4, 2) := by decide +kernel
theorem dL_law_663 : decode cL_law 663 = .ok (.iconst 3, 1) := by decide +kernel
theorem dL_law_664 : decode cL_law 664 = .ok (.iadd, 1) := by decide +kernel
theorem dL_law_665 : decode cL_law 665 = .ok (.iaload, 1) := by decide +kernel
theorem dL_law_666 : decode cL_law 666 = .ok (.aload_n 0, 1) := by decide +kernel
theorem dL_law_667 : decode cL_law 667 = .ok (.iload 4, 2) := by decide +kernel
theorem dL_law_669 : decode cL_law 669 = .ok (.iconst 4, 1) := by decide +kernel
theorem dL_law_670 : decode cL_law 670 = .ok (.iadd, 1) := by decide +kernel
theorem dL_law_671 : decode cL_law 671 = .ok (.iaload, 1) := by decide +kernel
theorem dL_law_672 : decode cL_law 672 = .ok (.i2l, 1) := by decide +kernel
theorem dL_law_673 : decode cL_law 673 = .ok (.bipush 32, 2) := by decide +kernel
theorem dL_law_675 : decode cL_law 675 = .ok (.lshl, 1) := by decide +kernel
theorem dL_law_676 : decode cL_law 676 = .ok (.aload_n 0, 1) := by decide +kernel
theorem dL_law_677 : decode cL_law 677 = .ok (.iload 4, 2) := by decide +kernel
theorem dL_law_679 : decode cL_law 679 = .ok (.iconst 5, 1) := by decide +kernel
theorem dL_law_680 : decode cL_law 680 = .ok (.iadd, 1) := by decide +kernel
theorem dL_law_681 : decode cL_law 681 = .ok (.iaload, 1) := by decide +kernel
theorem dL_law_682 : decode cL_law 682 = .ok (.i2l, 1) := by decide +kernel
theorem dL_law_683 : decode cL_law 683 = .ok (.ldc2_w 161, 3) := by decide +kernel
theorem dL_law_686 : decode cL_law 686 = .ok (.land, 1) := by decide +kernel
theorem dL_law_687 : decode cL_law 687 = .ok (.lor, 1) := by decide +kernel
theorem dL_law_688 : decode cL_law 688 = .ok (.invokevirtual 174, 3) := by decide +kernel
theorem dL_law_691 : decode cL_law 691 = .ok (.lstore 6, 2) := by decide +kernel
theorem dL_law_693 : decode cL_law 693 = .ok (.aload_n 2, 1) := by decide +kernel
theorem dL_law_694 : decode cL_law 694 = .ok (.invokevirtual 147, 3) := by decide +kernel
theorem dL_law_697 : decode cL_law 697 = .ok (.iload 5, 2) := by decide +kernel
theorem dL_law_699 : decode cL_law 699 = .ok (.if_icmp .eq 5, 3) := by decide +kernel
theorem dL_law_704 : decode cL_law 704 = .ok (.iload 5, 2) := by decide +kernel
theorem dL_law_706 : decode cL_law 706 = .ok (.ifCond .ne 14, 3) := by decide +kernel
theorem dL_law_709 : decode cL_law 709 = .ok (.aload_n 3, 1) := by decide +kernel
theorem dL_law_710 : decode cL_law 710 = .ok (.iconst 0, 1) := by decide +kernel
theorem dL_law_711 : decode cL_law 711 = .ok (.laload, 1) := by decide +kernel
theorem dL_law_712 : decode cL_law 712 = .ok (.lload 6, 2) := by decide +kernel
theorem dL_law_714 : decode cL_law 714 = .ok (.lcmp, 1) := by decide +kernel
theorem dL_law_715 : decode cL_law 715 = .ok (.ifCond .eq 5, 3) := by decide +kernel
theorem dL_law_720 : decode cL_law 720 = .ok (.goto 2220, 3) := by decide +kernel
set_option maxRecDepth 100000 in
set_option maxHeartbeats 4000000 in
theorem lc_set {p : Program} {l : Launch} {e : Env} {mc ms : Nat} {s : State} {m : MethodId} {below : List Frame} {meth : Method} {c : Code} {H : Heap} {locs : List Loc} {cells slots : Nat} {Q : State → Prop} {rt0 : Option FieldType} {nm0 : String} {D : va_G} {cy : Nat → ClassId} {N0 : Nat} {tb : List ExceptionTableEntry} {h : qH} {ls : Array Slot} {b L : Nat} {xs : Nat → Int32} {x y ou : Nat} {fo : Nat → Int64} {gr : Int32} {n i C1 C2 : Nat} {S : Nat → qSlot} {Wo : qWo} (C : qX p l s m #[Value.ref b] meth c RL cL_law 8 rt0 nm0 D cy N0 tb) (hX : va_X b L xs s s.heap) (hbl0 : b < s.heap.size) (hbA : ¬ qA N0 b) (hP : qP D N0 h H) (hS : va_S (qA N0) s.heap H locs) (hi : i + 7 ≤ L) (hL : L ≤ 449) (hn : n < 64) (j : JZ cy h x y ou fo gr n S Wo S Wo) (hp : PI gr n S Wo) (hc1 : cells ≤ C1 + t1 n + Wo.2.1.1 + qP1 Wo.2.1) (hc2 : slots ≤ C2 + t2 n + 10 * Wo.2.1.1 + qP2 Wo.2.1) (hmc : C1 + 530000 ≤ mc) (hms : C2 + 5520000 ≤ ms) (hl : lv_has ls 8 [(4, .int (nI i)), (3, .ref ou), (2, .ref y), (1, .ref x), (0, .ref b)]) (kend : ∀ (ls : Array Slot) (H : Heap) (locs : List Loc) (c1 c2 : Nat) (h : qH) (fo : Nat → Int64) (S : Nat → qSlot) (Wo : qWo), JZ cy h x y ou fo gr (n + 1) S Wo S Wo → PI gr (n + 1) S Wo → c1 ≤ C1 + t1 (n + 1) + Wo.2.1.1 + qP1 Wo.2.1 → c2 ≤ C2 + t2 (n + 1) + 10 * Wo.2.1.1 + qP2 Wo.2.1 → qP D N0 h H → va_S (qA N0) s.heap H locs → lv_has ls 8 [(4, .int (nI i)), (3, .ref ou), (2, .ref y), (1, .ref x), (0, .ref b)] → W p l e (qR 2048 84000 mc ms) s m #[Value.ref b] below meth c H locs c1 c2 Q (F0 m 2940 ls [])) : W p l e (qR 2048 84000 mc ms) s m #[Value.ref b] below meth c H locs cells slots Q (F0 m 600 ls []) := by
  have hx := C.1
  have hb := C.2.1
  have h1L := t1_le (n + 1) (by omega)
  have h2L := t2_le (n + 1) (by omega)
  have e1L : t1 (n + 1) = t1 n + (1201 + 212 * n) := rfl
  have e2L : t2 (n + 1) = t2 n + (13300 + n * rMs n 7) := rfl
  have hb0 := hp.bnd (by omega)
  refine lv_aload_n hx hb dL_law_600 rfl (lv_at hl 3 rfl) ?_
  refine lv_aload_n hx hb dL_law_601 rfl (lv_at hl 4 rfl) ?_
  refine lv_iload hx hb dL_law_602 (lv_at hl 0 rfl) ?_
  refine lv_iconst (v := nI 1) hx hb dL_law_604 (by decide) ?_
  refine q_iaddN hx hb dL_law_605 ?_
  refine va_sld hx hb hX hbl0 hbA hS (nI_in (by omega) (by omega)) dL_law_606 ?_
  refine lv_topi (fun s1 es1 => ?_)
  refine lv_aload_n hx hb dL_law_607 rfl (lv_at hl 4 rfl) ?_
  refine lv_iload hx hb dL_law_608 (lv_at hl 0 rfl) ?_
  refine lv_iconst (v := nI 2) hx hb dL_law_610 (by decide) ?_
  refine q_iaddN hx hb dL_law_611 ?_
  refine va_sld hx hb hX hbl0 hbA hS (nI_in (by omega) (by omega)) dL_law_612 ?_
  refine lv_topi (fun s2 es2 => ?_)
  refine lv_aload_n hx hb dL_law_613 rfl (lv_at hl 4 rfl) ?_
  refine lv_iload hx hb dL_law_614 (lv_at hl 0 rfl) ?_
  refine lv_iconst (v := nI 3) hx hb dL_law_616 (by decide) ?_
  refine q_iaddN hx hb dL_law_617 ?_
  refine va_sld hx hb hX hbl0 hbA hS (nI_in (by omega) (by omega)) dL_law_618 ?_
  refine lv_topi (fun s3 es3 => ?_)
  refine lv_aload_n hx hb dL_law_619 rfl (lv_at hl 4 rfl) ?_
  refine lv_iload hx hb dL_law_620 (lv_at hl 0 rfl) ?_
  refine lv_iconst (v := nI 4) hx hb dL_law_622 (by decide) ?_
  refine q_iaddN hx hb dL_law_623 ?_
  refine va_sld hx hb hX hbl0 hbA hS (nI_in (by omega) (by omega)) dL_law_624 ?_
  refine lv_topi (fun s4 es4 => ?_)
  refine lv_i2l hx hb dL_law_625 rfl ?_
  refine lv_bipush (v := nI 32) hx hb dL_law_626 (by decide) ?_
  refine lv_lshl hx hb dL_law_628 rfl ?_
  refine lv_aload_n hx hb dL_law_629 rfl (lv_at hl 4 rfl) ?_
  refine lv_iload hx hb dL_law_630 (lv_at hl 0 rfl) ?_
  refine lv_iconst (v := nI 5) hx hb dL_law_632 (by decide) ?_
  refine q_iaddN hx hb dL_law_633 ?_
  refine va_sld hx hb hX hbl0 hbA hS (nI_in (by omega) (by omega)) dL_law_634 ?_
  refine lv_topi (fun s5 es5 => ?_)
  refine lv_i2l hx hb dL_law_635 rfl ?_
  refine lv_ldc2 hx hb C.2.2.2.2.1 (C.2.2.2.2.2.1 _ g1484) dL_law_636 ?_
  refine lv_land hx hb dL_law_639 ?_
  refine lv_lor hx hb dL_law_640 ?_
  refine lv_topl (fun q4 eq4 => ?_)
  refine lv_aload_n hx hb dL_law_641 rfl (lv_at hl 1 rfl) ?_
  have hpK : PI gr (n + 1) ((xs_set S s1 s2 s3 q4).2.1) (Wo) := hp.set
  have hbK := hpK.bnd (by omega)
  have hmo : MO Wo (Wo) := MO.rf
  have hqm := qP1_mo hmo hb0.2.2.2
  have hm1 := hmo.1
  refine q_callSW (rest := []) C (zl_set l D cy N0 h x y ou fo gr n S Wo s1 s2 s3 q4 j hp hn) kwL_set g583 g584 hP hS (by omega) hl.1 rfl (by decide) (by omega) dL_law_642 (fun v hh1 H locs hq hP hS => ?_)
  obtain ⟨rfl, fo1, j1, ha1⟩ := hq
  obtain ⟨fi, re, rc, rs, so, ot, cn, la, hy1⟩ := j1.yo
  refine lv_istore (lv' := [(5, .int ((xs_set S s1 s2 s3 q4).1)), (4, .int (nI i)), (3, .ref ou), (2, .ref y), (1, .ref x), (0, .ref b)]) hx hb dL_law_645 hl (by decide) rfl (fun ls hl => ?_)
  refine lv_aload_n hx hb dL_law_647 rfl (lv_at hl 3 rfl) ?_
  refine lv_aload_n hx hb dL_law_648 rfl (lv_at hl 5 rfl) ?_
  refine lv_iload hx hb dL_law_649 (lv_at hl 1 rfl) ?_
  refine lv_iconst (v := nI 1) hx hb dL_law_651 (by decide) ?_
  refine q_iaddN hx hb dL_law_652 ?_
  refine va_sld hx hb hX hbl0 hbA hS (nI_in (by omega) (by omega)) dL_law_653 ?_
  rw [← es1]
  refine lv_aload_n hx hb dL_law_654 rfl (lv_at hl 5 rfl) ?_
  refine lv_iload hx hb dL_law_655 (lv_at hl 1 rfl) ?_
  refine lv_iconst (v := nI 2) hx hb dL_law_657 (by decide) ?_
  refine q_iaddN hx hb dL_law_658 ?_
  refine va_sld hx hb hX hbl0 hbA hS (nI_in (by omega) (by omega)) dL_law_659 ?_
  rw [← es2]
  refine lv_aload_n hx hb dL_law_660 rfl (lv_at hl 5 rfl) ?_
  refine lv_iload hx hb dL_law_661 (lv_at hl 1 rfl) ?_
  refine lv_iconst (v := nI 3) hx hb dL_law_663 (by decide) ?_
  refine q_iaddN hx hb dL_law_664 ?_
  refine va_sld hx hb hX hbl0 hbA hS (nI_in (by omega) (by omega)) dL_law_665 ?_
  rw [← es3]
  refine lv_aload_n hx hb dL_law_666 rfl (lv_at hl 5 rfl) ?_
  refine lv_iload hx hb dL_law_667 (lv_at hl 1 rfl) ?_
  refine lv_iconst (v := nI 4) hx hb dL_law_669 (by decide) ?_
  refine q_iaddN hx hb dL_law_670 ?_
  refine va_sld hx hb hX hbl0 hbA hS (nI_in (by omega) (by omega)) dL_law_671 ?_
  rw [← es4]
  refine lv_i2l hx hb dL_law_672 rfl ?_
  refine lv_bipush (v := nI 32) hx hb dL_law_673 (by decide) ?_
  refine lv_lshl hx hb dL_law_675 rfl ?_
  refine lv_aload_n hx hb dL_law_676 rfl (lv_at hl 5 rfl) ?_
  refine lv_iload hx hb dL_law_677 (lv_at hl 1 rfl) ?_
  refine lv_iconst (v := nI 5) hx hb dL_law_679 (by decide) ?_
  refine q_iaddN hx hb dL_law_680 ?_
  refine va_sld hx hb hX hbl0 hbA hS (nI_in (by omega) (by omega)) dL_law_681 ?_
  rw [← es5]
  refine lv_i2l hx hb dL_law_682 rfl ?_
  refine lv_ldc2 hx hb C.2.2.2.2.1 (C.2.2.2.2.2.1 _ g1484) dL_law_683 ?_
  refine lv_land hx hb dL_law_686 ?_
  refine lv_lor hx hb dL_law_687 ?_
  rw [← eq4]
  refine q_callV (rest := []) C (wl_set l D cy N0 hh1 x y ou fo1 gr n S Wo s1 s2 s3 q4 j1 hp hn) kX8_set g1319 g1320 rfl g1321 g4 hP hS hy1 (by first | decide | omega) hl.1 rfl (by decide) (by first | decide | omega) dL_law_688 (fun q ce E h' H1 locs1 hE => hE.elim) (fun v hh2 H locs hq hP hS => ?_)
  obtain ⟨rfl, W2, j2, p2, hcd, hw2⟩ := hq
  have hb2 : W2.2.1 = (Wo).2.1 := congrArg Prod.fst hw2
  obtain ⟨fi2, re2, rc2, rs2, so2, ot2, cn2, la2, hy2⟩ := j2.yo
  refine lv_lstore (lv' := [(6, .long ((xs_set S s1 s2 s3 q4).2.2)), (5, .int ((xs_set S s1 s2 s3 q4).1)), (4, .int (nI i)), (3, .ref ou), (2, .ref y), (1, .ref x), (0, .ref b)]) hx hb dL_law_691 hl (by decide) rfl (fun ls hl => ?_)
  refine lv_aload_n hx hb dL_law_693 rfl (lv_at hl 4 rfl) ?_
  refine q_callV (rest := []) C (c_X8_thrown l D cy N0 hh2 y W2.1.1 W2.1.2.1 W2.1.2.2.1 W2.1.2.2.2.1 W2.1.2.2.2.2.1 fi2 re2 rc2 rs2 so2 ot2 cn2 la2 W2.1.2.2.2.2.2.1 W2.1.2.2.2.2.2.2.1 W2.1.2.2.2.2.2.2.2.1 W2.1.2.2.2.2.2.2.2.2.1 W2.1.2.2.2.2.2.2.2.2.2.1 W2.1.2.2.2.2.2.2.2.2.2.2.1 W2.1.2.2.2.2.2.2.2.2.2.2.2.1 (nI W2.2.1.1) (nI W2.2.2.1) W2.1.2.2.2.2.2.2.2.2.2.2.2.2 hy2) kX8_thrown g1238 g1239 rfl g1240 g4 hP hS hy2 (by first | decide | omega) hl.1 rfl (by decide) (by first | decide | omega) dL_law_694 (fun q ce E h' H1 locs1 hE => hE.elim) (fun v hh3 H locs hq hP hS => ?_)
  obtain ⟨rfl, rfl⟩ := hq
  rw [hcd]
  refine lv_iload hx hb dL_law_697 (lv_at hl 1 rfl) ?_
  refine lv_icmp_eq (tgt := 704) hx hb dL_law_699 (by decide) (fun _ => ?_) (fun c9 => absurd rfl c9)
  refine lv_iload hx hb dL_law_704 (lv_at hl 1 rfl) ?_
  refine lv_if_ne (tgt := 720) hx hb dL_law_706 (by decide) (fun _ => ?_) (fun hk0 => ?_)
  · refine lv_goto (tgt := 2940) hx hb dL_law_720 (by decide) ?_
    exact kend ls H locs _ _ _ fo1 _ W2 j2 p2 (by rw [hb2]; omega) (by rw [hb2]; omega) hP hS (lv_sub hl [2, 3, 4, 5, 6] rfl)
  · refine lv_aload_n hx hb dL_law_709 rfl (lv_at hl 3 rfl) ?_
    refine lv_iconst (v := nI 0) hx hb dL_law_710 (by decide) ?_
    refine q_laldN C hP j2.ouf (by omega) (by omega) dL_law_711 ?_
    refine lv_lload hx hb dL_law_712 (lv_at hl 0 rfl) ?_
    refine W.lcmp hx hb dL_law_714 ?_
    refine lv_if_eq (tgt := 720) hx hb dL_law_715 (by decide) (fun _ => ?_) (fun c9 => absurd ((lg_cmp_eq _ _).mpr (ha1 hk0)) c9)
    refine lv_goto (tgt := 2940) hx hb dL_law_720 (by decide) ?_
    exact kend ls H locs _ _ _ fo1 _ W2 j2 p2 (by rw [hb2]; omega) (by rw [hb2]; omega) hP hS (lv_sub hl [2, 3, 4, 5, 6] rfl)
theorem dL_law_723 : decode cL_law 723 = .ok (.aload_n 1, 1) := by decide +kernel
theorem dL_law_724 : decode cL_law 724 = .ok (.aload_n 0, 1) := by decide +kernel
theorem dL_law_725 : decode cL_law 725 = .ok (.iload 4, 2) := by decide +kernel
theorem dL_law_727 : decode cL_law 727 = .ok (.iconst 1, 1) := by decide +kernel
theorem dL_law_728 : decode cL_law 728 = .ok (.iadd, 1) := by decide +kernel
theorem dL_law_729 : decode cL_law 729 = .ok (.iaload, 1) := by decide +kernel
theorem dL_law_730 : decode cL_law 730 = .ok (.aload_n 0, 1) := by decide +kernel
theorem dL_law_731 : decode cL_law 731 = .ok (.iload 4, 2) := by decide +kernel
theorem dL_law_733 : decode cL_law 733 = .ok (.iconst 2, 1) := by decide +kernel
theorem dL_law_734 : decode cL_law 734 = .ok (.iadd, 1) := by decide +kernel
theorem dL_law_735 : decode cL_law 735 = .ok (.iaload, 1) := by decide +kernel
theorem dL_law_736 : decode cL_law 736 = .ok (.aload_n 3, 1) := by decide +kernel
theorem dL_law_737 : decode cL_law 737 = .ok (.invokestatic 175, 3) := by decide +kernel
theorem dL_law_740 : decode cL_law 740 = .ok (.istore 5, 2) := by decide +kernel
theorem dL_law_742 : decode cL_law 742 = .ok (.aload_n 2, 1) := by decide +kernel
theorem dL_law_743 : decode cL_law 743 = .ok (.aload_n 0, 1) := by decide +kernel
theorem dL_law_744 : decode cL_law 744 = .ok (.iload 4, 2) := by decide +kernel
theorem dL_law_746 : decode cL_law 746 = .ok (.iconst 1, 1) := by decide +kernel
theorem dL_law_747 : decode cL_law 747 = .ok (.iadd, 1) := by decide +kernel
theorem dL_law_748 : decode cL_law 748 = .ok (.iaload, 1) := by decide +kernel
theorem dL_law_749 : decode cL_law 749 = .ok (.aload_n 0, 1) := by decide +kernel
theorem dL_law_750 : decode cL_law 750 = .ok (.iload 4, 2) := by decide +kernel
theorem dL_law_752 : decode cL_law 752 = .ok (.iconst 2, 1) := by decide +kernel
theorem dL_law_753 : decode cL_law 753 = .ok (.iadd, 1) := by decide +kernel
theorem dL_law_754 : decode cL_law 754 = .ok (.iaload, 1) := by decide +kernel
theorem dL_law_755 : decode cL_law 755 = .ok (.invokevirtual 178, 3) := by decide +kernel
theorem dL_law_758 : decode cL_law 758 = .ok (.lstore 6, 2) := by decide +kernel
theorem dL_law_760 : decode cL_law 760 = .ok (.aload_n 2, 1) := by decide +kernel
theorem dL_law_761 : decode cL_law 761 = .ok (.invokevirtual 147, 3) := by decide +kernel
theorem dL_law_764 : decode cL_law 764 = .ok (.iload 5, 2) := by decide +kernel
theorem dL_law_766 : decode cL_law 766 = .ok (.if_icmp .eq 5, 3) := by decide +kernel
theorem dL_law_771 : decode cL_law 771 = .ok (.iload 5, 2) := by decide +kernel
theorem dL_law_773 : decode cL_law 773 = .ok (.ifCond .ne 14, 3) := by decide +kernel
theorem dL_law_776 : decode cL_law 776 = .ok (.aload_n 3, 1) := by decide +kernel
theorem dL_law_777 : decode cL_law 777 = .ok (.iconst 0, 1) := by decide +kernel
theorem dL_law_778 : decode cL_law 778 = .ok (.laload, 1) := by decide +kernel
theorem dL_law_779 : decode cL_law 779 = .ok (.lload 6, 2) := by decide +kernel
theorem dL_law_781 : decode cL_law 781 = .ok (.lcmp, 1) := by decide +kernel
theorem dL_law_782 : decode cL_law 782 = .ok (.ifCond .eq 5, 3) := by decide +kernel
theorem dL_law_787 : decode cL_law 787 = .ok (.goto 2153, 3) := by decide +kernel
set_option maxRecDepth 100000 in
set_option maxHeartbeats 4000000 in
theorem lc_at {p : Program} {l : Launch} {e : Env} {mc ms : Nat} {s : State} {m : MethodId} {below : List Frame} {meth : Method} {c : Code} {H : Heap} {locs : List Loc} {cells slots : Nat} {Q : State → Prop} {rt0 : Option FieldType} {nm0 : String} {D : va_G} {cy : Nat → ClassId} {N0 : Nat} {tb : List ExceptionTableEntry} {h : qH} {ls : Array Slot} {b L : Nat} {xs : Nat → Int32} {x y ou : Nat} {fo : Nat → Int64} {gr : Int32} {n i C1 C2 : Nat} {S : Nat → qSlot} {Wo : qWo} (C : qX p l s m #[Value.ref b] meth c RL cL_law 8 rt0 nm0 D cy N0 tb) (hX : va_X b L xs s s.heap) (hbl0 : b < s.heap.size) (hbA : ¬ qA N0 b) (hP : qP D N0 h H) (hS : va_S (qA N0) s.heap H locs) (hi : i + 7 ≤ L) (hL : L ≤ 449) (hn : n < 64) (j : JZ cy h x y ou fo gr n S Wo S Wo) (hp : PI gr n S Wo) (hc1 : cells ≤ C1 + t1 n + Wo.2.1.1 + qP1 Wo.2.1) (hc2 : slots ≤ C2 + t2 n + 10 * Wo.2.1.1 + qP2 Wo.2.1) (hmc : C1 + 530000 ≤ mc) (hms : C2 + 5520000 ≤ ms) (hl : lv_has ls 8 [(4, .int (nI i)), (3, .ref ou), (2, .ref y), (1, .ref x), (0, .ref b)]) (kend : ∀ (ls : Array Slot) (H : Heap) (locs : List Loc) (c1 c2 : Nat) (h : qH) (fo : Nat → Int64) (S : Nat → qSlot) (Wo : qWo), JZ cy h x y ou fo gr (n + 1) S Wo S Wo → PI gr (n + 1) S Wo → c1 ≤ C1 + t1 (n + 1) + Wo.2.1.1 + qP1 Wo.2.1 → c2 ≤ C2 + t2 (n + 1) + 10 * Wo.2.1.1 + qP2 Wo.2.1 → qP D N0 h H → va_S (qA N0) s.heap H locs → lv_has ls 8 [(4, .int (nI i)), (3, .ref ou), (2, .ref y), (1, .ref x), (0, .ref b)] → W p l e (qR 2048 84000 mc ms) s m #[Value.ref b] below meth c H locs c1 c2 Q (F0 m 2940 ls [])) : W p l e (qR 2048 84000 mc ms) s m #[Value.ref b] below meth c H locs cells slots Q (F0 m 723 ls []) := by
  have hx := C.1
  have hb := C.2.1
  have h1L := t1_le (n + 1) (by omega)
  have h2L := t2_le (n + 1) (by omega)
  have e1L : t1 (n + 1) = t1 n + (1201 + 212 * n) := rfl
  have e2L : t2 (n + 1) = t2 n + (13300 + n * rMs n 7) := rfl
  have hb0 := hp.bnd (by omega)
  refine lv_aload_n hx hb dL_law_723 rfl (lv_at hl 3 rfl) ?_
  refine lv_aload_n hx hb dL_law_724 rfl (lv_at hl 4 rfl) ?_
  refine lv_iload hx hb dL_law_725 (lv_at hl 0 rfl) ?_
  refine lv_iconst (v := nI 1) hx hb dL_law_727 (by decide) ?_
  refine q_iaddN hx hb dL_law_728 ?_
  refine va_sld hx hb hX hbl0 hbA hS (nI_in (by omega) (by omega)) dL_law_729 ?_
  refine lv_topi (fun s1 es1 => ?_)
  refine lv_aload_n hx hb dL_law_730 rfl (lv_at hl 4 rfl) ?_
  refine lv_iload hx hb dL_law_731 (lv_at hl 0 rfl) ?_
  refine lv_iconst (v := nI 2) hx hb dL_law_733 (by decide) ?_
  refine q_iaddN hx hb dL_law_734 ?_
  refine va_sld hx hb hX hbl0 hbA hS (nI_in (by omega) (by omega)) dL_law_735 ?_
  refine lv_topi (fun s2 es2 => ?_)
  refine lv_aload_n hx hb dL_law_736 rfl (lv_at hl 1 rfl) ?_
  have hpK : PI gr (n + 1) (S) ((xs_at (xF S) S Wo s1 s2).2.2) := hp.at
  have hbK := hpK.bnd (by omega)
  have hmo : MO Wo ((xs_at (xF S) S Wo s1 s2).2.2) := mo_at hp
  have hqm := qP1_mo hmo hb0.2.2.2
  have hm1 := hmo.1
  refine q_callSW (rest := []) C (zl_at l D cy N0 h x y ou fo gr n S Wo s1 s2 j hp hn) kwL_at g621 g622 hP hS (by omega) hl.1 rfl (by decide) (by omega) dL_law_737 (fun v hh1 H locs hq hP hS => ?_)
  obtain ⟨rfl, fo1, j1, ha1⟩ := hq
  obtain ⟨fi, re, rc, rs, so, ot, cn, la, hy1⟩ := j1.yo
  refine lv_istore (lv' := [(5, .int ((xs_at (xF S) S Wo s1 s2).1)), (4, .int (nI i)), (3, .ref ou), (2, .ref y), (1, .ref x), (0, .ref b)]) hx hb dL_law_740 hl (by decide) rfl (fun ls hl => ?_)
  refine lv_aload_n hx hb dL_law_742 rfl (lv_at hl 3 rfl) ?_
  refine lv_aload_n hx hb dL_law_743 rfl (lv_at hl 5 rfl) ?_
  refine lv_iload hx hb dL_law_744 (lv_at hl 1 rfl) ?_
  refine lv_iconst (v := nI 1) hx hb dL_law_746 (by decide) ?_
  refine q_iaddN hx hb dL_law_747 ?_
  refine va_sld hx hb hX hbl0 hbA hS (nI_in (by omega) (by omega)) dL_law_748 ?_
  rw [← es1]
  refine lv_aload_n hx hb dL_law_749 rfl (lv_at hl 5 rfl) ?_
  refine lv_iload hx hb dL_law_750 (lv_at hl 1 rfl) ?_
  refine lv_iconst (v := nI 2) hx hb dL_law_752 (by decide) ?_
  refine q_iaddN hx hb dL_law_753 ?_
  refine va_sld hx hb hX hbl0 hbA hS (nI_in (by omega) (by omega)) dL_law_754 ?_
  rw [← es2]
  refine q_callV (rest := []) C (wl_at l D cy N0 hh1 x y ou fo1 gr n S Wo s1 s2 j1 hp hn) kX8_at g1323 g1324 rfl g1325 g4 hP hS hy1 (by first | decide | omega) hl.1 rfl (by decide) (by first | decide | omega) dL_law_755 (fun q ce E h' H1 locs1 hE => hE.elim) (fun v hh2 H locs hq hP hS => ?_)
  obtain ⟨rfl, W2, j2, p2, hcd, hw2⟩ := hq
  have hb2 : W2.2.1 = ((xs_at (xF S) S Wo s1 s2).2.2).2.1 := congrArg Prod.fst hw2
  obtain ⟨fi2, re2, rc2, rs2, so2, ot2, cn2, la2, hy2⟩ := j2.yo
  refine lv_lstore (lv' := [(6, .long ((xs_at (xF S) S Wo s1 s2).2.1)), (5, .int ((xs_at (xF S) S Wo s1 s2).1)), (4, .int (nI i)), (3, .ref ou), (2, .ref y), (1, .ref x), (0, .ref b)]) hx hb dL_law_758 hl (by decide) rfl (fun ls hl => ?_)
  refine lv_aload_n hx hb dL_law_760 rfl (lv_at hl 4 rfl) ?_
  refine q_callV (rest := []) C (c_X8_thrown l D cy N0 hh2 y W2.1.1 W2.1.2.1 W2.1.2.2.1 W2.1.2.2.2.1 W2.1.2.2.2.2.1 fi2 re2 rc2 rs2 so2 ot2 cn2 la2 W2.1.2.2.2.2.2.1 W2.1.2.2.2.2.2.2.1 W2.1.2.2.2.2.2.2.2.1 W2.1.2.2.2.2.2.2.2.2.1 W2.1.2.2.2.2.2.2.2.2.2.1 W2.1.2.2.2.2.2.2.2.2.2.2.1 W2.1.2.2.2.2.2.2.2.2.2.2.2.1 (nI W2.2.1.1) (nI W2.2.2.1) W2.1.2.2.2.2.2.2.2.2.2.2.2.2 hy2) kX8_thrown g1238 g1239 rfl g1240 g4 hP hS hy2 (by first | decide | omega) hl.1 rfl (by decide) (by first | decide | omega) dL_law_761 (fun q ce E h' H1 locs1 hE => hE.elim) (fun v hh3 H locs hq hP hS => ?_)
  obtain ⟨rfl, rfl⟩ := hq
  rw [hcd]
  refine lv_iload hx hb dL_law_764 (lv_at hl 1 rfl) ?_
  refine lv_icmp_eq (tgt := 771) hx hb dL_law_766 (by decide) (fun _ => ?_) (fun c9 => absurd rfl c9)
  refine lv_iload hx hb dL_law_771 (lv_at hl 1 rfl) ?_
  refine lv_if_ne (tgt := 787) hx hb dL_law_773 (by decide) (fun _ => ?_) (fun hk0 => ?_)
  · refine lv_goto (tgt := 2940) hx hb dL_law_787 (by decide) ?_
    exact kend ls H locs _ _ _ fo1 _ W2 j2 p2 (by rw [hb2]; omega) (by rw [hb2]; omega) hP hS (lv_sub hl [2, 3, 4, 5, 6] rfl)
  · refine lv_aload_n hx hb dL_law_776 rfl (lv_at hl 3 rfl) ?_
    refine lv_iconst (v := nI 0) hx hb dL_law_777 (by decide) ?_
    refine q_laldN C hP j2.ouf (by omega) (by omega) dL_law_778 ?_
    refine lv_lload hx hb dL_law_779 (lv_at hl 0 rfl) ?_
    refine W.lcmp hx hb dL_law_781 ?_
    refine lv_if_eq (tgt := 787) hx hb dL_law_782 (by decide) (fun _ => ?_) (fun c9 => absurd ((lg_cmp_eq _ _).mpr (ha1 hk0)) c9)
    refine lv_goto (tgt := 2940) hx hb dL_law_787 (by decide) ?_
    exact kend ls H locs _ _ _ fo1 _ W2 j2 p2 (by rw [hb2]; omega) (by rw [hb2]; omega) hP hS (lv_sub hl [2, 3, 4, 5, 6] rfl)
theorem dL_law_790 : decode cL_law 790 = .ok (.aload_n 1, 1) := by decide +kernel
theorem dL_law_791 : decode cL_law 791 = .ok (.aload_n 0, 1) := by decide +kernel
theorem dL_law_792 : decode cL_law 792 = .ok (.iload 4, 2) := by decide +kernel
theorem dL_law_794 : decode cL_law 794 = .ok (.iconst 1, 1) := by decide +kernel
theorem dL_law_795 : decode cL_law 795 = .ok (.iadd, 1) := by decide +kernel
theorem dL_law_796 : decode cL_law 796 = .ok (.iaload, 1) := by decide +kernel
theorem dL_law_797 : decode cL_law 797 = .ok (.aload_n 0, 1) := by decide +kernel
theorem dL_law_798 : decode cL_law 798 = .ok (.iload 4, 2) := by decide +kernel
theorem dL_law_800 : decode cL_law 800 = .ok (.iconst 2, 1) := by decide +kernel
theorem dL_law_801 : decode cL_law 801 = .ok (.iadd, 1) := by decide +kernel
theorem dL_law_802 : decode cL_law 802 = .ok (.iaload, 1) := by decide +kernel
theorem dL_law_803 : decode cL_law 803 = .ok (.aload_n 0, 1) := by decide +kernel
theorem dL_law_804 : decode cL_law 804 = .ok (.iload 4, 2) := by decide +kernel
theorem dL_law_806 : decode cL_law 806 = .ok (.iconst 3, 1) := by decide +kernel
theorem dL_law_807 : decode cL_law 807 = .ok (.iadd, 1) := by decide +kernel
theorem dL_law_808 : decode cL_law 808 = .ok (.iaload, 1) := by decide +kernel
theorem dL_law_809 : decode cL_law 809 = .ok (.aload_n 0, 1) := by decide +kernel
theorem dL_law_810 : decode cL_law 810 = .ok (.iload 4, 2) := by decide +kernel
theorem dL_law_812 : decode cL_law 812 = .ok (.iconst 4, 1) := by decide +kernel
theorem dL_law_813 : decode cL_law 813 = .ok (.iadd, 1) := by decide +kernel
theorem dL_law_814 : decode cL_law 814 = .ok (.iaload, 1) := by decide +kernel
theorem dL_law_815 : decode cL_law 815 = .ok (.ifCond .eq 7, 3) := by decide +kernel
theorem dL_law_818 : decode cL_law 818 = .ok (.iconst 1, 1) := by decide +kernel
theorem dL_law_819 : decode cL_law 819 = .ok (.goto 4, 3) := by decide +kernel
theorem dL_law_822 : decode cL_law 822 = .ok (.iconst 0, 1) := by decide +kernel
theorem dL_law_823 : decode cL_law 823 = .ok (.aload_n 3, 1) := by decide +kernel
theorem dL_law_824 : decode cL_law 824 = .ok (.invokestatic 179, 3) := by decide +kernel
theorem dL_law_827 : decode cL_law 827 = .ok (.istore 5, 2) := by decide +kernel
theorem dL_law_829 : decode cL_law 829 = .ok (.aload_n 2, 1) := by decide +kernel
theorem dL_law_830 : decode cL_law 830 = .ok (.aload_n 0, 1) := by decide +kernel
theorem dL_law_831 : decode cL_law 831 = .ok (.iload 4, 2) := by decide +kernel
theorem dL_law_833 : decode cL_law 833 = .ok (.iconst 1, 1) := by decide +kernel
theorem dL_law_834 : decode cL_law 834 = .ok (.iadd, 1) := by decide +kernel
theorem dL_law_835 : decode cL_law 835 = .ok (.iaload, 1) := by decide +kernel
theorem dL_law_836 : decode cL_law 836 = .ok (.aload_n 0, 1) := by decide +kernel
theorem dL_law_837 : decode cL_law 837 = .ok (.iload 4, 2) := by decide +kernel
theorem dL_law_839 : decode cL_law 839 = .ok (.iconst 2, 1) := by decide +kernel
theorem dL_law_840 : decode cL_law 840 = .ok (.iadd, 1) := by decide +kernel
theorem dL_law_841 : decode cL_law 841 = .ok (.iaload, 1) := by decide +kernel
theorem dL_law_842 : decode cL_law 842 = .ok (.aload_n 0, 1) := by decide +kernel
theorem dL_law_843 : decode cL_law 843 = .ok (.iload 4, 2) := by decide +kernel
theorem dL_law_845 : decode cL_law 845 = .ok (.iconst 3, 1) := by decide +kernel
theorem dL_law_846 : decode cL_law 846 = .ok (.iadd, 1) := by decide +kernel
theorem dL_law_847 : decode cL_law 847 = .ok (.iaload, 1) := by decide +kernel
theorem dL_law_848 : decode cL_law 848 = .ok (.aload_n 0, 1) := by decide +kernel
theorem dL_law_849 : decode cL_law 849 = .ok (.iload 4, 2) := by decide +kernel
theorem dL_law_851 : decode cL_law 851 = .ok (.iconst 4, 1) := by decide +kernel
theorem dL_law_852 : decode cL_law 852 = .ok (.iadd, 1) := by decide +kernel
theorem dL_law_853 : decode cL_law 853 = .ok (.iaload, 1) := by decide +kernel
theorem dL_law_854 : decode cL_law 854 = .ok (.ifCond .eq 7, 3) := by decide +kernel
theorem dL_law_857 : decode cL_law 857 = .ok (.iconst 1, 1) := by decide +kernel
theorem dL_law_858 : decode cL_law 858 = .ok (.goto 4, 3) := by decide +kernel
theorem dL_law_861 : decode cL_law 861 = .ok (.iconst 0, 1) := by decide +kernel
theorem dL_law_862 : decode cL_law 862 = .ok (.invokevirtual 182, 3) := by decide +kernel
theorem dL_law_865 : decode cL_law 865 = .ok (.istore 6, 2) := by decide +kernel
theorem dL_law_867 : decode cL_law 867 = .ok (.aload_n 2, 1) := by decide +kernel
theorem dL_law_868 : decode cL_law 868 = .ok (.invokevirtual 147, 3) := by decide +kernel
theorem dL_law_871 : decode cL_law 871 = .ok (.iload 5, 2) := by decide +kernel
theorem dL_law_873 : decode cL_law 873 = .ok (.if_icmp .eq 5, 3) := by decide +kernel
theorem dL_law_878 : decode cL_law 878 = .ok (.iload 5, 2) := by decide +kernel
theorem dL_law_880 : decode cL_law 880 = .ok (.ifCond .ne 15, 3) := by decide +kernel
theorem dL_law_883 : decode cL_law 883 = .ok (.aload_n 3, 1) := by decide +kernel
theorem dL_law_884 : decode cL_law 884 = .ok (.iconst 0, 1) := by decide +kernel
theorem dL_law_885 : decode cL_law 885 = .ok (.laload, 1) := by decide +kernel
theorem dL_law_886 : decode cL_law 886 = .ok (.iload 6, 2) := by decide +kernel
theorem dL_law_888 : decode cL_law 888 = .ok (.i2l, 1) := by decide +kernel
theorem dL_law_889 : decode cL_law 889 = .ok (.lcmp, 1) := by decide +kernel
theorem dL_law_890 : decode cL_law 890 = .ok (.ifCond .eq 5, 3) := by decide +kernel
theorem dL_law_895 : decode cL_law 895 = .ok (.goto 2045, 3) := by decide +kernel
set_option maxRecDepth 100000 in
set_option maxHeartbeats 4000000 in
theorem lc_drop {p : Program} {l : Launch} {e : Env} {mc ms : Nat} {s : State} {m : MethodId} {below : List Frame} {meth : Method} {c : Code} {H : Heap} {locs : List Loc} {cells slots : Nat} {Q : State → Prop} {rt0 : Option FieldType} {nm0 : String} {D : va_G} {cy : Nat → ClassId} {N0 : Nat} {tb : List ExceptionTableEntry} {h : qH} {ls : Array Slot} {b L : Nat} {xs : Nat → Int32} {x y ou : Nat} {fo : Nat → Int64} {gr : Int32} {n i C1 C2 : Nat} {S : Nat → qSlot} {Wo : qWo} (C : qX p l s m #[Value.ref b] meth c RL cL_law 8 rt0 nm0 D cy N0 tb) (hX : va_X b L xs s s.heap) (hbl0 : b < s.heap.size) (hbA : ¬ qA N0 b) (hP : qP D N0 h H) (hS : va_S (qA N0) s.heap H locs) (hi : i + 7 ≤ L) (hL : L ≤ 449) (hn : n < 64) (j : JZ cy h x y ou fo gr n S Wo S Wo) (hp : PI gr n S Wo) (hc1 : cells ≤ C1 + t1 n + Wo.2.1.1 + qP1 Wo.2.1) (hc2 : slots ≤ C2 + t2 n + 10 * Wo.2.1.1 + qP2 Wo.2.1) (hmc : C1 + 530000 ≤ mc) (hms : C2 + 5520000 ≤ ms) (hl : lv_has ls 8 [(4, .int (nI i)), (3, .ref ou), (2, .ref y), (1, .ref x), (0, .ref b)]) (kend : ∀ (ls : Array Slot) (H : Heap) (locs : List Loc) (c1 c2 : Nat) (h : qH) (fo : Nat → Int64) (S : Nat → qSlot) (Wo : qWo), JZ cy h x y ou fo gr (n + 1) S Wo S Wo → PI gr (n + 1) S Wo → c1 ≤ C1 + t1 (n + 1) + Wo.2.1.1 + qP1 Wo.2.1 → c2 ≤ C2 + t2 (n + 1) + 10 * Wo.2.1.1 + qP2 Wo.2.1 → qP D N0 h H → va_S (qA N0) s.heap H locs → lv_has ls 8 [(4, .int (nI i)), (3, .ref ou), (2, .ref y), (1, .ref x), (0, .ref b)] → W p l e (qR 2048 84000 mc ms) s m #[Value.ref b] below meth c H locs c1 c2 Q (F0 m 2940 ls [])) : W p l e (qR 2048 84000 mc ms) s m #[Value.ref b] below meth c H locs cells slots Q (F0 m 790 ls []) := by
  have hx := C.1
  have hb := C.2.1
  have h1L := t1_le (n + 1) (by omega)
  have h2L := t2_le (n + 1) (by omega)
  have e1L : t1 (n + 1) = t1 n + (1201 + 212 * n) := rfl
  have e2L : t2 (n + 1) = t2 n + (13300 + n * rMs n 7) := rfl
  have hb0 := hp.bnd (by omega)
  refine lv_aload_n hx hb dL_law_790 rfl (lv_at hl 3 rfl) ?_
  refine lv_aload_n hx hb dL_law_791 rfl (lv_at hl 4 rfl) ?_
  refine lv_iload hx hb dL_law_792 (lv_at hl 0 rfl) ?_
  refine lv_iconst (v := nI 1) hx hb dL_law_794 (by decide) ?_
  refine q_iaddN hx hb dL_law_795 ?_
  refine va_sld hx hb hX hbl0 hbA hS (nI_in (by omega) (by omega)) dL_law_796 ?_
  refine lv_topi (fun s1 es1 => ?_)
  refine lv_aload_n hx hb dL_law_797 rfl (lv_at hl 4 rfl) ?_
  refine lv_iload hx hb dL_law_798 (lv_at hl 0 rfl) ?_
  refine lv_iconst (v := nI 2) hx hb dL_law_800 (by decide) ?_
  refine q_iaddN hx hb dL_law_801 ?_
  refine va_sld hx hb hX hbl0 hbA hS (nI_in (by omega) (by omega)) dL_law_802 ?_
  refine lv_topi (fun s2 es2 => ?_)
  refine lv_aload_n hx hb dL_law_803 rfl (lv_at hl 4 rfl) ?_
  refine lv_iload hx hb dL_law_804 (lv_at hl 0 rfl) ?_
  refine lv_iconst (v := nI 3) hx hb dL_law_806 (by decide) ?_
  refine q_iaddN hx hb dL_law_807 ?_
  refine va_sld hx hb hX hbl0 hbA hS (nI_in (by omega) (by omega)) dL_law_808 ?_
  refine lv_topi (fun s3 es3 => ?_)
  refine lv_aload_n hx hb dL_law_809 rfl (lv_at hl 4 rfl) ?_
  refine lv_iload hx hb dL_law_810 (lv_at hl 0 rfl) ?_
  refine lv_iconst (v := nI 4) hx hb dL_law_812 (by decide) ?_
  refine q_iaddN hx hb dL_law_813 ?_
  refine va_sld hx hb hX hbl0 hbA hS (nI_in (by omega) (by omega)) dL_law_814 ?_
  refine lv_topi (fun s4 es4 => ?_)
  by_cases hbz : s4 = 0
  · refine lv_if_eq (tgt := 822) hx hb dL_law_815 (by decide) (fun _ => ?_) (fun c9 => absurd hbz c9)
    refine lv_iconst (v := nI 0) hx hb dL_law_822 (by decide) ?_
    refine lv_aload_n hx hb dL_law_823 rfl (lv_at hl 1 rfl) ?_
    have hpK : PI gr (n + 1) ((xs_drop S s1 s2 s3 (nI 0)).2.1) (Wo) := hp.drop
    have hbK := hpK.bnd (by omega)
    have hmo : MO Wo (Wo) := MO.rf
    have hqm := qP1_mo hmo hb0.2.2.2
    have hm1 := hmo.1
    refine q_callSW (rest := []) C (zl_drop l D cy N0 h x y ou fo gr n S Wo s1 s2 s3 (nI 0) j hp hn) kwL_drop g717 g718 hP hS (by omega) hl.1 rfl (by decide) (by omega) dL_law_824 (fun v hh1 H locs hq hP hS => ?_)
    obtain ⟨rfl, fo1, j1, ha1⟩ := hq
    obtain ⟨fi, re, rc, rs, so, ot, cn, la, hy1⟩ := j1.yo
    refine lv_istore (lv' := [(5, .int ((xs_drop S s1 s2 s3 (nI 0)).1)), (4, .int (nI i)), (3, .ref ou), (2, .ref y), (1, .ref x), (0, .ref b)]) hx hb dL_law_827 hl (by decide) rfl (fun ls hl => ?_)
    refine lv_aload_n hx hb dL_law_829 rfl (lv_at hl 3 rfl) ?_
    refine lv_aload_n hx hb dL_law_830 rfl (lv_at hl 5 rfl) ?_
    refine lv_iload hx hb dL_law_831 (lv_at hl 1 rfl) ?_
    refine lv_iconst (v := nI 1) hx hb dL_law_833 (by decide) ?_
    refine q_iaddN hx hb dL_law_834 ?_
    refine va_sld hx hb hX hbl0 hbA hS (nI_in (by omega) (by omega)) dL_law_835 ?_
    rw [← es1]
    refine lv_aload_n hx hb dL_law_836 rfl (lv_at hl 5 rfl) ?_
    refine lv_iload hx hb dL_law_837 (lv_at hl 1 rfl) ?_
    refine lv_iconst (v := nI 2) hx hb dL_law_839 (by decide) ?_
    refine q_iaddN hx hb dL_law_840 ?_
    refine va_sld hx hb hX hbl0 hbA hS (nI_in (by omega) (by omega)) dL_law_841 ?_
    rw [← es2]
    refine lv_aload_n hx hb dL_law_842 rfl (lv_at hl 5 rfl) ?_
    refine lv_iload hx hb dL_law_843 (lv_at hl 1 rfl) ?_
    refine lv_iconst (v := nI 3) hx hb dL_law_845 (by decide) ?_
    refine q_iaddN hx hb dL_law_846 ?_
    refine va_sld hx hb hX hbl0 hbA hS (nI_in (by omega) (by omega)) dL_law_847 ?_
    rw [← es3]
    refine lv_aload_n hx hb dL_law_848 rfl (lv_at hl 5 rfl) ?_
    refine lv_iload hx hb dL_law_849 (lv_at hl 1 rfl) ?_
    refine lv_iconst (v := nI 4) hx hb dL_law_851 (by decide) ?_
    refine q_iaddN hx hb dL_law_852 ?_
    refine va_sld hx hb hX hbl0 hbA hS (nI_in (by omega) (by omega)) dL_law_853 ?_
    rw [← es4]
    refine lv_if_eq (tgt := 861) hx hb dL_law_854 (by decide) (fun _ => ?_) (fun c9 => absurd hbz c9)
    refine lv_iconst (v := nI 0) hx hb dL_law_861 (by decide) ?_
    refine q_callV (rest := []) C (wl_drop l D cy N0 hh1 x y ou fo1 gr n S Wo s1 s2 s3 (nI 0) j1 hp hn) kX8_drop g1378 g1379 rfl g1380 g4 hP hS hy1 (by first | decide | omega) hl.1 rfl (by decide) (by first | decide | omega) dL_law_862 (fun q ce E h' H1 locs1 hE => hE.elim) (fun v hh2 H locs hq hP hS => ?_)
    obtain ⟨rfl, W2, j2, p2, hcd, hw2⟩ := hq
    have hb2 : W2.2.1 = (Wo).2.1 := congrArg Prod.fst hw2
    obtain ⟨fi2, re2, rc2, rs2, so2, ot2, cn2, la2, hy2⟩ := j2.yo
    refine lv_istore (lv' := [(6, .int ((xs_drop S s1 s2 s3 (nI 0)).2.2)), (5, .int ((xs_drop S s1 s2 s3 (nI 0)).1)), (4, .int (nI i)), (3, .ref ou), (2, .ref y), (1, .ref x), (0, .ref b)]) hx hb dL_law_865 hl (by decide) rfl (fun ls hl => ?_)
    refine lv_aload_n hx hb dL_law_867 rfl (lv_at hl 4 rfl) ?_
    refine q_callV (rest := []) C (c_X8_thrown l D cy N0 hh2 y W2.1.1 W2.1.2.1 W2.1.2.2.1 W2.1.2.2.2.1 W2.1.2.2.2.2.1 fi2 re2 rc2 rs2 so2 ot2 cn2 la2 W2.1.2.2.2.2.2.1 W2.1.2.2.2.2.2.2.1 W2.1.2.2.2.2.2.2.2.1 W2.1.2.2.2.2.2.2.2.2.1 W2.1.2.2.2.2.2.2.2.2.2.1 W2.1.2.2.2.2.2.2.2.2.2.2.1 W2.1.2.2.2.2.2.2.2.2.2.2.2.1 (nI W2.2.1.1) (nI W2.2.2.1) W2.1.2.2.2.2.2.2.2.2.2.2.2.2 hy2) kX8_thrown g1238 g1239 rfl g1240 g4 hP hS hy2 (by first | decide | omega) hl.1 rfl (by decide) (by first | decide | omega) dL_law_868 (fun q ce E h' H1 locs1 hE => hE.elim) (fun v hh3 H locs hq hP hS => ?_)
    obtain ⟨rfl, rfl⟩ := hq
    rw [hcd]
    refine lv_iload hx hb dL_law_871 (lv_at hl 1 rfl) ?_
    refine lv_icmp_eq (tgt := 878) hx hb dL_law_873 (by decide) (fun _ => ?_) (fun c9 => absurd rfl c9)
    refine lv_iload hx hb dL_law_878 (lv_at hl 1 rfl) ?_
    refine lv_if_ne (tgt := 895) hx hb dL_law_880 (by decide) (fun _ => ?_) (fun hk0 => ?_)
    · refine lv_goto (tgt := 2940) hx hb dL_law_895 (by decide) ?_
      exact kend ls H locs _ _ _ fo1 _ W2 j2 p2 (by rw [hb2]; omega) (by rw [hb2]; omega) hP hS (lv_sub hl [2, 3, 4, 5, 6] rfl)
    · refine lv_aload_n hx hb dL_law_883 rfl (lv_at hl 3 rfl) ?_
      refine lv_iconst (v := nI 0) hx hb dL_law_884 (by decide) ?_
      refine q_laldN C hP j2.ouf (by omega) (by omega) dL_law_885 ?_
      refine lv_iload hx hb dL_law_886 (lv_at hl 0 rfl) ?_
      refine lv_i2l hx hb dL_law_888 rfl ?_
      refine W.lcmp hx hb dL_law_889 ?_
      refine lv_if_eq (tgt := 895) hx hb dL_law_890 (by decide) (fun _ => ?_) (fun c9 => absurd ((lg_cmp_eq _ _).mpr (ha1 hk0)) c9)
      refine lv_goto (tgt := 2940) hx hb dL_law_895 (by decide) ?_
      exact kend ls H locs _ _ _ fo1 _ W2 j2 p2 (by rw [hb2]; omega) (by rw [hb2]; omega) hP hS (lv_sub hl [2, 3, 4, 5, 6] rfl)
  · refine lv_if_eq (tgt := 822) hx hb dL_law_815 (by decide) (fun c9 => absurd c9 hbz) (fun _ => ?_)
    refine lv_iconst (v := nI 1) hx hb dL_law_818 (by decide) ?_
    refine lv_goto (tgt := 823) hx hb dL_law_819 (by decide) ?_
    refine lv_aload_n hx hb dL_law_823 rfl (lv_at hl 1 rfl) ?_
    have hpK : PI gr (n + 1) ((xs_drop S s1 s2 s3 (nI 1)).2.1) (Wo) := hp.drop
    have hbK := hpK.bnd (by omega)
    have hmo : MO Wo (Wo) := MO.rf
    have hqm := qP1_mo hmo hb0.2.2.2
    have hm1 := hmo.1
    refine q_callSW (rest := []) C (zl_drop l D cy N0 h x y ou fo gr n S Wo s1 s2 s3 (nI 1) j hp hn) kwL_drop g717 g718 hP hS (by omega) hl.1 rfl (by decide) (by omega) dL_law_824 (fun v hh4 H locs hq hP hS => ?_)
    obtain ⟨rfl, fo1, j1, ha1⟩ := hq
    obtain ⟨fi, re, rc, rs, so, ot, cn, la, hy1⟩ := j1.yo
    refine lv_istore (lv' := [(5, .int ((xs_drop S s1 s2 s3 (nI 1)).1)), (4, .int (nI i)), (3, .ref ou), (2, .ref y), (1, .ref x), (0, .ref b)]) hx hb dL_law_827 hl (by decide) rfl (fun ls hl => ?_)
    refine lv_aload_n hx hb dL_law_829 rfl (lv_at hl 3 rfl) ?_
    refine lv_aload_n hx hb dL_law_830 rfl (lv_at hl 5 rfl) ?_
    refine lv_iload hx hb dL_law_831 (lv_at hl 1 rfl) ?_
    refine lv_iconst (v := nI 1) hx hb dL_law_833 (by decide) ?_
    refine q_iaddN hx hb dL_law_834 ?_
    refine va_sld hx hb hX hbl0 hbA hS (nI_in (by omega) (by omega)) dL_law_835 ?_
    rw [← es1]
    refine lv_aload_n hx hb dL_law_836 rfl (lv_at hl 5 rfl) ?_
    refine lv_iload hx hb dL_law_837 (lv_at hl 1 rfl) ?_
    refine lv_iconst (v := nI 2) hx hb dL_law_839 (by decide) ?_
    refine q_iaddN hx hb dL_law_840 ?_
    refine va_sld hx hb hX hbl0 hbA hS (nI_in (by omega) (by omega)) dL_law_841 ?_
    rw [← es2]
    refine lv_aload_n hx hb dL_law_842 rfl (lv_at hl 5 rfl) ?_
    refine lv_iload hx hb dL_law_843 (lv_at hl 1 rfl) ?_
    refine lv_iconst (v := nI 3) hx hb dL_law_845 (by decide) ?_
    refine q_iaddN hx hb dL_law_846 ?_
    refine va_sld hx hb hX hbl0 hbA hS (nI_in (by omega) (by omega)) dL_law_847 ?_
    rw [← es3]
    refine lv_aload_n hx hb dL_law_848 rfl (lv_at hl 5 rfl) ?_
    refine lv_iload hx hb dL_law_849 (lv_at hl 1 rfl) ?_
    refine lv_iconst (v := nI 4) hx hb dL_law_851 (by decide) ?_
    refine q_iaddN hx hb dL_law_852 ?_
    refine va_sld hx hb hX hbl0 hbA hS (nI_in (by omega) (by omega)) dL_law_853 ?_
    rw [← es4]
    refine lv_if_eq (tgt := 861) hx hb dL_law_854 (by decide) (fun c9 => absurd c9 hbz) (fun _ => ?_)
    refine lv_iconst (v := nI 1) hx hb dL_law_857 (by decide) ?_
    refine lv_goto (tgt := 862) hx hb dL_law_858 (by decide) ?_
    refine q_callV (rest := []) C (wl_drop l D cy N0 hh4 x y ou fo1 gr n S Wo s1 s2 s3 (nI 1) j1 hp hn) kX8_drop g1378 g1379 rfl g1380 g4 hP hS hy1 (by first | decide | omega) hl.1 rfl (by decide) (by first | decide | omega) dL_law_862 (fun q ce E h' H1 locs1 hE => hE.elim) (fun v hh5 H locs hq hP hS => ?_)
    obtain ⟨rfl, W2, j2, p2, hcd, hw2⟩ := hq
    have hb2 : W2.2.1 = (Wo).2.1 := congrArg Prod.fst hw2
    obtain ⟨fi2, re2, rc2, rs2, so2, ot2, cn2, la2, hy2⟩ := j2.yo
    refine lv_istore (lv' := [(6, .int ((xs_drop S s1 s2 s3 (nI 1)).2.2)), (5, .int ((xs_drop S s1 s2 s3 (nI 1)).1)), (4, .int (nI i)), (3, .ref ou), (2, .ref y), (1, .ref x), (0, .ref b)]) hx hb dL_law_865 hl (by decide) rfl (fun ls hl => ?_)
    refine lv_aload_n hx hb dL_law_867 rfl (lv_at hl 4 rfl) ?_
    refine q_callV (rest := []) C (c_X8_thrown l D cy N0 hh5 y W2.1.1 W2.1.2.1 W2.1.2.2.1 W2.1.2.2.2.1 W2.1.2.2.2.2.1 fi2 re2 rc2 rs2 so2 ot2 cn2 la2 W2.1.2.2.2.2.2.1 W2.1.2.2.2.2.2.2.1 W2.1.2.2.2.2.2.2.2.1 W2.1.2.2.2.2.2.2.2.2.1 W2.1.2.2.2.2.2.2.2.2.2.1 W2.1.2.2.2.2.2.2.2.2.2.2.1 W2.1.2.2.2.2.2.2.2.2.2.2.2.1 (nI W2.2.1.1) (nI W2.2.2.1) W2.1.2.2.2.2.2.2.2.2.2.2.2.2 hy2) kX8_thrown g1238 g1239 rfl g1240 g4 hP hS hy2 (by first | decide | omega) hl.1 rfl (by decide) (by first | decide | omega) dL_law_868 (fun q ce E h' H1 locs1 hE => hE.elim) (fun v hh6 H locs hq hP hS => ?_)
    obtain ⟨rfl, rfl⟩ := hq
    rw [hcd]
    refine lv_iload hx hb dL_law_871 (lv_at hl 1 rfl) ?_
    refine lv_icmp_eq (tgt := 878) hx hb dL_law_873 (by decide) (fun _ => ?_) (fun c9 => absurd rfl c9)
    refine lv_iload hx hb dL_law_878 (lv_at hl 1 rfl) ?_
    refine lv_if_ne (tgt := 895) hx hb dL_law_880 (by decide) (fun _ => ?_) (fun hk0 => ?_)
    · refine lv_goto (tgt := 2940) hx hb dL_law_895 (by decide) ?_
      exact kend ls H locs _ _ _ fo1 _ W2 j2 p2 (by rw [hb2]; omega) (by rw [hb2]; omega) hP hS (lv_sub hl [2, 3, 4, 5, 6] rfl)
    · refine lv_aload_n hx hb dL_law_883 rfl (lv_at hl 3 rfl) ?_
      refine lv_iconst (v := nI 0) hx hb dL_law_884 (by decide) ?_
      refine q_laldN C hP j2.ouf (by omega) (by omega) dL_law_885 ?_
      refine lv_iload hx hb dL_law_886 (lv_at hl 0 rfl) ?_
      refine lv_i2l hx hb dL_law_888 rfl ?_
      refine W.lcmp hx hb dL_law_889 ?_
      refine lv_if_eq (tgt := 895) hx hb dL_law_890 (by decide) (fun _ => ?_) (fun c9 => absurd ((lg_cmp_eq _ _).mpr (ha1 hk0)) c9)
      refine lv_goto (tgt := 2940) hx hb dL_law_895 (by decide) ?_
      exact kend ls H locs _ _ _ fo1 _ W2 j2 p2 (by rw [hb2]; omega) (by rw [hb2]; omega) hP hS (lv_sub hl [2, 3, 4, 5, 6] rfl)
theorem dL_law_898 : decode cL_law 898 = .ok (.aload_n 1, 1) := by decide +kernel
theorem dL_law_899 : decode cL_law 899 = .ok (.aload_n 0, 1) := by decide +kernel
theorem dL_law_900 : decode cL_law 900 = .ok (.iload 4, 2) := by decide +kernel
theorem dL_law_902 : decode cL_law 902 = .ok (.iconst 1, 1) := by decide +kernel
theorem dL_law_903 : decode cL_law 903 = .ok (.iadd, 1) := by decide +kernel
theorem dL_law_904 : decode cL_law 904 = .ok (.iaload, 1) := by decide +kernel
theorem dL_law_905 : decode cL_law 905 = .ok (.aload_n 0, 1) := by decide +kernel
theorem dL_law_906 : decode cL_law 906 = .ok (.iload 4, 2) := by decide +kernel
theorem dL_law_908 : decode cL_law 908 = .ok (.iconst 2, 1) := by decide +kernel
theorem dL_law_909 : decode cL_law 909 = .ok (.iadd, 1) := by decide +kernel
theorem dL_law_910 : decode cL_law 910 = .ok (.iaload, 1) := by decide +kernel
theorem dL_law_911 : decode cL_law 911 = .ok (.aload_n 3, 1) := by decide +kernel
theorem dL_law_912 : decode cL_law 912 = .ok (.invokestatic 183, 3) := by decide +kernel
theorem dL_law_915 : decode cL_law 915 = .ok (.istore 5, 2) := by decide +kernel
theorem dL_law_917 : decode cL_law 917 = .ok (.aload_n 2, 1) := by decide +kernel
theorem dL_law_918 : decode cL_law 918 = .ok (.aload_n 0, 1) := by decide +kernel
theorem dL_law_919 : decode cL_law 919 = .ok (.iload 4, 2) := by decide +kernel
theorem dL_law_921 : decode cL_law 921 = .ok (.iconst 1, 1) := by decide +kernel
theorem dL_law_922 : decode cL_law 922 = .ok (.iadd, 1) := by decide +kernel
theorem dL_law_923 : decode cL_law 923 = .ok (.iaload, 1) := by decide +kernel
theorem dL_law_924 : decode cL_law 924 = .ok (.aload_n 0, 1) := by decide +kernel
theorem dL_law_925 : decode cL_law 925 = .ok (.iload 4, 2) := by decide +kernel
theorem dL_law_927 : decode cL_law 927 = .ok (.iconst 2, 1) := by decide +kernel
theorem dL_law_928 : decode cL_law 928 = .ok (.iadd, 1) := by decide +kernel
theorem dL_law_929 : decode cL_law 929 = .ok (.iaload, 1) := by decide +kernel
theorem dL_law_930 : decode cL_law 930 = .ok (.invokevirtual 185, 3) := by decide +kernel
theorem dL_law_933 : decode cL_law 933 = .ok (.lstore 6, 2) := by decide +kernel
theorem dL_law_935 : decode cL_law 935 = .ok (.aload_n 2, 1) := by decide +kernel
theorem dL_law_936 : decode cL_law 936 = .ok (.invokevirtual 147, 3) := by decide +kernel
theorem dL_law_939 : decode cL_law 939 = .ok (.iload 5, 2) := by decide +kernel
theorem dL_law_941 : decode cL_law 941 = .ok (.if_icmp .eq 5, 3) := by decide +kernel
theorem dL_law_946 : decode cL_law 946 = .ok (.iload 5, 2) := by decide +kernel
theorem dL_law_948 : decode cL_law 948 = .ok (.ifCond .ne 14, 3) := by decide +kernel
theorem dL_law_951 : decode cL_law 951 = .ok (.aload_n 3, 1) := by decide +kernel
theorem dL_law_952 : decode cL_law 952 = .ok (.iconst 0, 1) := by decide +kernel
theorem dL_law_953 : decode cL_law 953 = .ok (.laload, 1) := by decide +kernel
theorem dL_law_954 : decode cL_law 954 = .ok (.lload 6, 2) := by decide +kernel
theorem dL_law_956 : decode cL_law 956 = .ok (.lcmp, 1) := by decide +kernel
theorem dL_law_957 : decode cL_law 957 = .ok (.ifCond .eq 5, 3) := by decide +kernel
theorem dL_law_962 : decode cL_law 962 = .ok (.goto 1978, 3) := by decide +kernel
set_option maxRecDepth 100000 in
set_option maxHeartbeats 4000000 in
theorem lc_pop {p : Program} {l : Launch} {e : Env} {mc ms : Nat} {s : State} {m : MethodId} {below : List Frame} {meth : Method} {c : Code} {H : Heap} {locs : List Loc} {cells slots : Nat} {Q : State → Prop} {rt0 : Option FieldType} {nm0 : String} {D : va_G} {cy : Nat → ClassId} {N0 : Nat} {tb : List ExceptionTableEntry} {h : qH} {ls : Array Slot} {b L : Nat} {xs : Nat → Int32} {x y ou : Nat} {fo : Nat → Int64} {gr : Int32} {n i C1 C2 : Nat} {S : Nat → qSlot} {Wo : qWo} (C : qX p l s m #[Value.ref b] meth c RL cL_law 8 rt0 nm0 D cy N0 tb) (hX : va_X b L xs s s.heap) (hbl0 : b < s.heap.size) (hbA : ¬ qA N0 b) (hP : qP D N0 h H) (hS : va_S (qA N0) s.heap H locs) (hi : i + 7 ≤ L) (hL : L ≤ 449) (hn : n < 64) (j : JZ cy h x y ou fo gr n S Wo S Wo) (hp : PI gr n S Wo) (hc1 : cells ≤ C1 + t1 n + Wo.2.1.1 + qP1 Wo.2.1) (hc2 : slots ≤ C2 + t2 n + 10 * Wo.2.1.1 + qP2 Wo.2.1) (hmc : C1 + 530000 ≤ mc) (hms : C2 + 5520000 ≤ ms) (hl : lv_has ls 8 [(4, .int (nI i)), (3, .ref ou), (2, .ref y), (1, .ref x), (0, .ref b)]) (kend : ∀ (ls : Array Slot) (H : Heap) (locs : List Loc) (c1 c2 : Nat) (h : qH) (fo : Nat → Int64) (S : Nat → qSlot) (Wo : qWo), JZ cy h x y ou fo gr (n + 1) S Wo S Wo → PI gr (n + 1) S Wo → c1 ≤ C1 + t1 (n + 1) + Wo.2.1.1 + qP1 Wo.2.1 → c2 ≤ C2 + t2 (n + 1) + 10 * Wo.2.1.1 + qP2 Wo.2.1 → qP D N0 h H → va_S (qA N0) s.heap H locs → lv_has ls 8 [(4, .int (nI i)), (3, .ref ou), (2, .ref y), (1, .ref x), (0, .ref b)] → W p l e (qR 2048 84000 mc ms) s m #[Value.ref b] below meth c H locs c1 c2 Q (F0 m 2940 ls [])) : W p l e (qR 2048 84000 mc ms) s m #[Value.ref b] below meth c H locs cells slots Q (F0 m 898 ls []) := by
  have hx := C.1
  have hb := C.2.1
  have h1L := t1_le (n + 1) (by omega)
  have h2L := t2_le (n + 1) (by omega)
  have e1L : t1 (n + 1) = t1 n + (1201 + 212 * n) := rfl
  have e2L : t2 (n + 1) = t2 n + (13300 + n * rMs n 7) := rfl
  have hb0 := hp.bnd (by omega)
  refine lv_aload_n hx hb dL_law_898 rfl (lv_at hl 3 rfl) ?_
  refine lv_aload_n hx hb dL_law_899 rfl (lv_at hl 4 rfl) ?_
  refine lv_iload hx hb dL_law_900 (lv_at hl 0 rfl) ?_
  refine lv_iconst (v := nI 1) hx hb dL_law_902 (by decide) ?_
  refine q_iaddN hx hb dL_law_903 ?_
  refine va_sld hx hb hX hbl0 hbA hS (nI_in (by omega) (by omega)) dL_law_904 ?_
  refine lv_topi (fun s1 es1 => ?_)
  refine lv_aload_n hx hb dL_law_905 rfl (lv_at hl 4 rfl) ?_
  refine lv_iload hx hb dL_law_906 (lv_at hl 0 rfl) ?_
  refine lv_iconst (v := nI 2) hx hb dL_law_908 (by decide) ?_
  refine q_iaddN hx hb dL_law_909 ?_
  refine va_sld hx hb hX hbl0 hbA hS (nI_in (by omega) (by omega)) dL_law_910 ?_
  refine lv_topi (fun s2 es2 => ?_)
  refine lv_aload_n hx hb dL_law_911 rfl (lv_at hl 1 rfl) ?_
  have hpK : PI gr (n + 1) ((xs_pop (xF S) S Wo s1 s2).2.2.1) ((xs_pop (xF S) S Wo s1 s2).2.2.2) := hp.pop
  have hbK := hpK.bnd (by omega)
  have hmo : MO Wo ((xs_pop (xF S) S Wo s1 s2).2.2.2) := mo_pop hp
  have hqm := qP1_mo hmo hb0.2.2.2
  have hm1 := hmo.1
  refine q_callSW (rest := []) C (zl_pop l D cy N0 h x y ou fo gr n S Wo s1 s2 j hp hn) kwL_pop g732 g733 hP hS (by omega) hl.1 rfl (by decide) (by omega) dL_law_912 (fun v hh1 H locs hq hP hS => ?_)
  obtain ⟨rfl, fo1, j1, ha1⟩ := hq
  obtain ⟨fi, re, rc, rs, so, ot, cn, la, hy1⟩ := j1.yo
  refine lv_istore (lv' := [(5, .int ((xs_pop (xF S) S Wo s1 s2).1)), (4, .int (nI i)), (3, .ref ou), (2, .ref y), (1, .ref x), (0, .ref b)]) hx hb dL_law_915 hl (by decide) rfl (fun ls hl => ?_)
  refine lv_aload_n hx hb dL_law_917 rfl (lv_at hl 3 rfl) ?_
  refine lv_aload_n hx hb dL_law_918 rfl (lv_at hl 5 rfl) ?_
  refine lv_iload hx hb dL_law_919 (lv_at hl 1 rfl) ?_
  refine lv_iconst (v := nI 1) hx hb dL_law_921 (by decide) ?_
  refine q_iaddN hx hb dL_law_922 ?_
  refine va_sld hx hb hX hbl0 hbA hS (nI_in (by omega) (by omega)) dL_law_923 ?_
  rw [← es1]
  refine lv_aload_n hx hb dL_law_924 rfl (lv_at hl 5 rfl) ?_
  refine lv_iload hx hb dL_law_925 (lv_at hl 1 rfl) ?_
  refine lv_iconst (v := nI 2) hx hb dL_law_927 (by decide) ?_
  refine q_iaddN hx hb dL_law_928 ?_
  refine va_sld hx hb hX hbl0 hbA hS (nI_in (by omega) (by omega)) dL_law_929 ?_
  rw [← es2]
  refine q_callV (rest := []) C (wl_pop l D cy N0 hh1 x y ou fo1 gr n S Wo s1 s2 j1 hp hn) kX8_pop g1382 g1383 rfl g1384 g4 hP hS hy1 (by first | decide | omega) hl.1 rfl (by decide) (by first | decide | omega) dL_law_930 (fun q ce E h' H1 locs1 hE => hE.elim) (fun v hh2 H locs hq hP hS => ?_)
  obtain ⟨rfl, W2, j2, p2, hcd, hw2⟩ := hq
  have hb2 : W2.2.1 = ((xs_pop (xF S) S Wo s1 s2).2.2.2).2.1 := congrArg Prod.fst hw2
  obtain ⟨fi2, re2, rc2, rs2, so2, ot2, cn2, la2, hy2⟩ := j2.yo
  refine lv_lstore (lv' := [(6, .long ((xs_pop (xF S) S Wo s1 s2).2.1)), (5, .int ((xs_pop (xF S) S Wo s1 s2).1)), (4, .int (nI i)), (3, .ref ou), (2, .ref y), (1, .ref x), (0, .ref b)]) hx hb dL_law_933 hl (by decide) rfl (fun ls hl => ?_)
  refine lv_aload_n hx hb dL_law_935 rfl (lv_at hl 4 rfl) ?_
  refine q_callV (rest := []) C (c_X8_thrown l D cy N0 hh2 y W2.1.1 W2.1.2.1 W2.1.2.2.1 W2.1.2.2.2.1 W2.1.2.2.2.2.1 fi2 re2 rc2 rs2 so2 ot2 cn2 la2 W2.1.2.2.2.2.2.1 W2.1.2.2.2.2.2.2.1 W2.1.2.2.2.2.2.2.2.1 W2.1.2.2.2.2.2.2.2.2.1 W2.1.2.2.2.2.2.2.2.2.2.1 W2.1.2.2.2.2.2.2.2.2.2.2.1 W2.1.2.2.2.2.2.2.2.2.2.2.2.1 (nI W2.2.1.1) (nI W2.2.2.1) W2.1.2.2.2.2.2.2.2.2.2.2.2.2 hy2) kX8_thrown g1238 g1239 rfl g1240 g4 hP hS hy2 (by first | decide | omega) hl.1 rfl (by decide) (by first | decide | omega) dL_law_936 (fun q ce E h' H1 locs1 hE => hE.elim) (fun v hh3 H locs hq hP hS => ?_)
  obtain ⟨rfl, rfl⟩ := hq
  rw [hcd]
  refine lv_iload hx hb dL_law_939 (lv_at hl 1 rfl) ?_
  refine lv_icmp_eq (tgt := 946) hx hb dL_law_941 (by decide) (fun _ => ?_) (fun c9 => absurd rfl c9)
  refine lv_iload hx hb dL_law_946 (lv_at hl 1 rfl) ?_
  refine lv_if_ne (tgt := 962) hx hb dL_law_948 (by decide) (fun _ => ?_) (fun hk0 => ?_)
  · refine lv_goto (tgt := 2940) hx hb dL_law_962 (by decide) ?_
    exact kend ls H locs _ _ _ fo1 _ W2 j2 p2 (by rw [hb2]; omega) (by rw [hb2]; omega) hP hS (lv_sub hl [2, 3, 4, 5, 6] rfl)
  · refine lv_aload_n hx hb dL_law_951 rfl (lv_at hl 3 rfl) ?_
    refine lv_iconst (v := nI 0) hx hb dL_law_952 (by decide) ?_
    refine q_laldN C hP j2.ouf (by omega) (by omega) dL_law_953 ?_
    refine lv_lload hx hb dL_law_954 (lv_at hl 0 rfl) ?_
    refine W.lcmp hx hb dL_law_956 ?_
    refine lv_if_eq (tgt := 962) hx hb dL_law_957 (by decide) (fun _ => ?_) (fun c9 => absurd ((lg_cmp_eq _ _).mpr (ha1 hk0)) c9)
    refine lv_goto (tgt := 2940) hx hb dL_law_962 (by decide) ?_
    exact kend ls H locs _ _ _ fo1 _ W2 j2 p2 (by rw [hb2]; omega) (by rw [hb2]; omega) hP hS (lv_sub hl [2, 3, 4, 5, 6] rfl)
