theorem dL_law_2185 : decode cL_law 2185 = .ok (.aload_n 1, 1) := by decide +kernel
theorem dL_law_2186 : decode cL_law 2186 = .ok (.aload_n 0, 1) := by decide +kernel
theorem dL_law_2187 : decode cL_law 2187 = .ok (.iload 4, 2) := by decide +kernel
theorem dL_law_2189 : decode cL_law 2189 = .ok (.iconst 1, 1) := by decide +kernel
theorem dL_law_2190 : decode cL_law 2190 = .ok (.iadd, 1) := by decide +kernel
theorem dL_law_2191 : decode cL_law 2191 = .ok (.iaload, 1) := by decide +kernel
theorem dL_law_2192 : decode cL_law 2192 = .ok (.aload_n 0, 1) := by decide +kernel
theorem dL_law_2193 : decode cL_law 2193 = .ok (.iload 4, 2) := by decide +kernel
theorem dL_law_2195 : decode cL_law 2195 = .ok (.iconst 2, 1) := by decide +kernel
theorem dL_law_2196 : decode cL_law 2196 = .ok (.iadd, 1) := by decide +kernel
theorem dL_law_2197 : decode cL_law 2197 = .ok (.iaload, 1) := by decide +kernel
theorem dL_law_2198 : decode cL_law 2198 = .ok (.i2l, 1) := by decide +kernel
theorem dL_law_2199 : decode cL_law 2199 = .ok (.bipush 32, 2) := by decide +kernel
theorem dL_law_2201 : decode cL_law 2201 = .ok (.lshl, 1) := by decide +kernel
theorem dL_law_2202 : decode cL_law 2202 = .ok (.aload_n 0, 1) := by decide +kernel
theorem dL_law_2203 : decode cL_law 2203 = .ok (.iload 4, 2) := by decide +kernel
theorem dL_law_2205 : decode cL_law 2205 = .ok (.iconst 3, 1) := by decide +kernel
theorem dL_law_2206 : decode cL_law 2206 = .ok (.iadd, 1) := by decide +kernel
theorem dL_law_2207 : decode cL_law 2207 = .ok (.iaload, 1) := by decide +kernel
theorem dL_law_2208 : decode cL_law 2208 = .ok (.i2l, 1) := by decide +kernel
theorem dL_law_2209 : decode cL_law 2209 = .ok (.ldc2_w 161, 3) := by decide +kernel
theorem dL_law_2212 : decode cL_law 2212 = .ok (.land, 1) := by decide +kernel
theorem dL_law_2213 : decode cL_law 2213 = .ok (.lor, 1) := by decide +kernel
theorem dL_law_2214 : decode cL_law 2214 = .ok (.aload_n 0, 1) := by decide +kernel
theorem dL_law_2215 : decode cL_law 2215 = .ok (.iload 4, 2) := by decide +kernel
theorem dL_law_2217 : decode cL_law 2217 = .ok (.iconst 4, 1) := by decide +kernel
theorem dL_law_2218 : decode cL_law 2218 = .ok (.iadd, 1) := by decide +kernel
theorem dL_law_2219 : decode cL_law 2219 = .ok (.iaload, 1) := by decide +kernel
theorem dL_law_2220 : decode cL_law 2220 = .ok (.aload_n 0, 1) := by decide +kernel
theorem dL_law_2221 : decode cL_law 2221 = .ok (.iload 4, 2) := by decide +kernel
theorem dL_law_2223 : decode cL_law 2223 = .ok (.iconst 5, 1) := by decide +kernel
theorem dL_law_2224 : decode cL_law 2224 = .ok (.iadd, 1) := by decide +kernel
theorem dL_law_2225 : decode cL_law 2225 = .ok (.iaload, 1) := by decide +kernel
theorem dL_law_2226 : decode cL_law 2226 = .ok (.i2l, 1) := by decide +kernel
theorem dL_law_2227 : decode cL_law 2227 = .ok (.bipush 32, 2) := by decide +kernel
theorem dL_law_2229 : decode cL_law 2229 = .ok (.lshl, 1) := by decide +kernel
theorem dL_law_2230 : decode cL_law 2230 = .ok (.aload_n 0, 1) := by decide +kernel
theorem dL_law_2231 : decode cL_law 2231 = .ok (.iload 4, 2) := by decide +kernel
theorem dL_law_2233 : decode cL_law 2233 = .ok (.bipush 6, 2) := by decide +kernel
theorem dL_law_2235 : decode cL_law 2235 = .ok (.iadd, 1) := by decide +kernel
theorem dL_law_2236 : decode cL_law 2236 = .ok (.iaload, 1) := by decide +kernel
theorem dL_law_2237 : decode cL_law 2237 = .ok (.i2l, 1) := by decide +kernel
theorem dL_law_2238 : decode cL_law 2238 = .ok (.ldc2_w 161, 3) := by decide +kernel
theorem dL_law_2241 : decode cL_law 2241 = .ok (.land, 1) := by decide +kernel
theorem dL_law_2242 : decode cL_law 2242 = .ok (.lor, 1) := by decide +kernel
theorem dL_law_2243 : decode cL_law 2243 = .ok (.invokestatic 227, 3) := by decide +kernel
theorem dL_law_2246 : decode cL_law 2246 = .ok (.istore 5, 2) := by decide +kernel
theorem dL_law_2248 : decode cL_law 2248 = .ok (.aload_n 2, 1) := by decide +kernel
theorem dL_law_2249 : decode cL_law 2249 = .ok (.aload_n 0, 1) := by decide +kernel
theorem dL_law_2250 : decode cL_law 2250 = .ok (.iload 4, 2) := by decide +kernel
theorem dL_law_2252 : decode cL_law 2252 = .ok (.iconst 1, 1) := by decide +kernel
theorem dL_law_2253 : decode cL_law 2253 = .ok (.iadd, 1) := by decide +kernel
theorem dL_law_2254 : decode cL_law 2254 = .ok (.iaload, 1) := by decide +kernel
theorem dL_law_2255 : decode cL_law 2255 = .ok (.aload_n 0, 1) := by decide +kernel
theorem dL_law_2256 : decode cL_law 2256 = .ok (.iload 4, 2) := by decide +kernel
theorem dL_law_2258 : decode cL_law 2258 = .ok (.iconst 2, 1) := by decide +kernel
theorem dL_law_2259 : decode cL_law 2259 = .ok (.iadd, 1) := by decide +kernel
theorem dL_law_2260 : decode cL_law 2260 = .ok (.iaload, 1) := by decide +kernel
theorem dL_law_2261 : decode cL_law 2261 = .ok (.i2l, 1) := by decide +kernel
theorem dL_law_2262 : decode cL_law 2262 = .ok (.bipush 32, 2) := by decide +kernel
theorem dL_law_2264 : decode cL_law 2264 = .ok (.lshl, 1) := by decide +kernel
theorem dL_law_2265 : decode cL_law 2265 = .ok (.aload_n 0, 1) := by decide +kernel
theorem dL_law_2266 : decode cL_law 2266 = .ok (.iload 4, 2) := by decide +kernel
theorem dL_law_2268 : decode cL_law 2268 = .ok (.iconst 3, 1) := by decide +kernel
theorem dL_law_2269 : decode cL_law 2269 = .ok (.iadd, 1) := by decide +kernel
theorem dL_law_2270 : decode cL_law 2270 = .ok (.iaload, 1) := by decide +kernel
theorem dL_law_2271 : decode cL_law 2271 = .ok (.i2l, 1) := by decide +kernel
theorem dL_law_2272 : decode cL_law 2272 = .ok (.ldc2_w 161, 3) := by decide +kernel
theorem dL_law_2275 : decode cL_law 2275 = .ok (.land, 1) := by decide +kernel
theorem dL_law_2276 : decode cL_law 2276 = .ok (.lor, 1) := by decide +kernel
theorem dL_law_2277 : decode cL_law 2277 = .ok (.aload_n 0, 1) := by decide +kernel
theorem dL_law_2278 : decode cL_law 2278 = .ok (.iload 4, 2) := by decide +kernel
theorem dL_law_2280 : decode cL_law 2280 = .ok (.iconst 4, 1) := by decide +kernel
theorem dL_law_2281 : decode cL_law 2281 = .ok (.iadd, 1) := by decide +kernel
theorem dL_law_2282 : decode cL_law 2282 = .ok (.iaload, 1) := by decide +kernel
theorem dL_law_2283 : decode cL_law 2283 = .ok (.aload_n 0, 1) := by decide +kernel
theorem dL_law_2284 : decode cL_law 2284 = .ok (.iload 4, 2) := by decide +kernel
theorem dL_law_2286 : decode cL_law 2286 = .ok (.iconst 5, 1) := by decide +kernel
theorem dL_law_2287 : decode cL_law 2287 = .ok (.iadd, 1) := by decide +kernel
theorem dL_law_2288 : decode cL_law 2288 = .ok (.iaload, 1) := by decide +kernel
theorem dL_law_2289 : decode cL_law 2289 = .ok (.i2l, 1) := by decide +kernel
theorem dL_law_2290 : decode cL_law 2290 = .ok (.bipush 32, 2) := by decide +kernel
theorem dL_law_2292 : decode cL_law 2292 = .ok (.lshl, 1) := by decide +kernel
theorem dL_law_2293 : decode cL_law 2293 = .ok (.aload_n 0, 1) := by decide +kernel
theorem dL_law_2294 : decode cL_law 2294 = .ok (.iload 4, 2) := by decide +kernel
theorem dL_law_2296 : decode cL_law 2296 = .ok (.bipush 6, 2) := by decide +kernel
theorem dL_law_2298 : decode cL_law 2298 = .ok (.iadd, 1) := by decide +kernel
theorem dL_law_2299 : decode cL_law 2299 = .ok (.iaload, 1) := by decide +kernel
theorem dL_law_2300 : decode cL_law 2300 = .ok (.i2l, 1) := by decide +kernel
theorem dL_law_2301 : decode cL_law 2301 = .ok (.ldc2_w 161, 3) := by decide +kernel
theorem dL_law_2304 : decode cL_law 2304 = .ok (.land, 1) := by decide +kernel
theorem dL_law_2305 : decode cL_law 2305 = .ok (.lor, 1) := by decide +kernel
theorem dL_law_2306 : decode cL_law 2306 = .ok (.invokevirtual 230, 3) := by decide +kernel
theorem dL_law_2309 : decode cL_law 2309 = .ok (.aload_n 2, 1) := by decide +kernel
theorem dL_law_2310 : decode cL_law 2310 = .ok (.invokevirtual 147, 3) := by decide +kernel
theorem dL_law_2313 : decode cL_law 2313 = .ok (.iload 5, 2) := by decide +kernel
theorem dL_law_2315 : decode cL_law 2315 = .ok (.if_icmp .eq 5, 3) := by decide +kernel
theorem dL_law_2320 : decode cL_law 2320 = .ok (.goto 620, 3) := by decide +kernel
set_option maxRecDepth 100000 in
set_option maxHeartbeats 4000000 in
theorem lc_iterate {p : Program} {l : Launch} {e : Env} {mc ms : Nat} {s : State} {m : MethodId} {below : List Frame} {meth : Method} {c : Code} {H : Heap} {locs : List Loc} {cells slots : Nat} {Q : State → Prop} {rt0 : Option FieldType} {nm0 : String} {D : va_G} {cy : Nat → ClassId} {N0 : Nat} {tb : List ExceptionTableEntry} {h : qH} {ls : Array Slot} {b : Nat} {xs : Nat → Int32} {x sl bl kr vr : Nat} {hm ed : Int32} {f g : Nat → Option Nat} {y ms_ mb mw od pt fi re rc rs so ot cn la ro : Nat} {gr : Int32} {f2 g2 : Nat → Option Nat} {o : Nat} {fo : Nat → Int64} (C : qX p l s m #[Value.ref b] meth c RL cL_law 8 rt0 nm0 D cy N0 tb) (hX : va_X b 8 xs s s.heap) (hbl0 : b < s.heap.size) (hbA : ¬ qA N0 b) (hP : qP D N0 h H) (hS : va_S (qA N0) s.heap H locs) (hcm : cells + 20 ≤ mc) (hsm : slots + 200 ≤ ms) (hT : h x = some (.inr (6, [.int hm, .ref sl, .ref bl, .ref kr, .ref vr, .int 0, .int 0, .int ed]))) (hsl : h sl = some (.inl (cy 3, 24, .inr (.inr (.inr (.inr f)))))) (hF : ∀ i, i < 24 → f i = none) (hbl : h bl = some (.inl (cy 2, 4, .inr (.inr (.inr (.inr g)))))) (hB : ∀ j, j < 4 → ∃ (b rw : Nat) (kd ln e2 : Int32) (rt : Option Nat), qBd h g j b rw 0 kd ln e2 rt) (hY : h y = some (.inr (8, [.ref ms_, .ref mb, .ref mw, .int gr, .int 0, .int 0, .int 0, .ref od, .ref pt, .int 0, .int 0, .ref fi, .ref re, .int (nI 1), .ref rc, .ref rs, .ref so, .ref ot, .ref cn, .ref la, .int (nI 1), .ref ro, .int 0]))) (hms : h ms_ = some (.inl (cy 5, 24, .inr (.inr (.inr (.inr f2)))))) (hmb : h mb = some (.inl (cy 5, 4, .inr (.inr (.inr (.inr g2)))))) (hR : qRo h f2 24) (hRB : qRo h g2 4) (ho : h o = some (.inl (cy 1, 1, .inr (.inl fo)))) (hfi : h fi = some (.inl (cy 1, 1024, .inr (.inl (fun _ => 0))))) (hre : h re = some (.inl (cy 0, 1024, .inl (fun _ => 0)))) (hrc : h rc = some (.inl (cy 0, 1024, .inl (fun _ => 0)))) (hso : h so = some (.inl (cy 0, 1024, .inl (fun _ => 0)))) (hot : h ot = some (.inl (cy 0, 1024, .inl (fun _ => 0)))) (hcn : h cn = some (.inl (cy 1, 1024, .inr (.inl (fun _ => 0))))) (hla : h la = some (.inl (cy 1, 1024, .inr (.inl (fun _ => 0))))) (n_so_rc : rc ≠ so) (n_ot_rc : rc ≠ ot) (n_rc_re : re ≠ rc) (n_ot_so : so ≠ ot) (n_so_re : re ≠ so) (n_ot_re : re ≠ ot) (n_la_cn : cn ≠ la) (n_cn_fi : fi ≠ cn) (n_la_fi : fi ≠ la) (n_ms_sl : ms_ ≠ sl) (n_mb_sl : mb ≠ sl) (hl : lv_has ls 8 [(4, .int 1), (3, .ref o), (2, .ref y), (1, .ref x), (0, .ref b)]) (kend : ∀ (ls : Array Slot) (H : Heap) (locs : List Loc) (ce sl : Nat), ce ≤ cells + 20 → sl ≤ slots + 200 → va_S (qA N0) s.heap H locs → lv_has ls 8 [(4, .int 1), (0, .ref b)] → W p l e (qR 2048 84000 mc ms) s m #[Value.ref b] below meth c H locs ce sl Q (F0 m 2940 ls [])) : W p l e (qR 2048 84000 mc ms) s m #[Value.ref b] below meth c H locs cells slots Q (F0 m 2185 ls []) := by
  have hx := C.1
  have hb := C.2.1
  refine lv_aload_n hx hb dL_law_2185 rfl (lv_at hl 3 rfl) ?_
  refine lv_aload_n hx hb dL_law_2186 rfl (lv_at hl 4 rfl) ?_
  refine lv_iload hx hb dL_law_2187 (lv_at hl 0 rfl) ?_
  refine lv_iconst (v := 1) hx hb dL_law_2189 (by decide) ?_
  refine lv_iadd hx hb dL_law_2190 ?_
  refine va_sld hx hb hX hbl0 hbA hS (by unfold vp_in; decide) dL_law_2191 ?_
  refine lv_topi (fun s1 es1 => ?_)
  refine lv_aload_n hx hb dL_law_2192 rfl (lv_at hl 4 rfl) ?_
  refine lv_iload hx hb dL_law_2193 (lv_at hl 0 rfl) ?_
  refine lv_iconst (v := 2) hx hb dL_law_2195 (by decide) ?_
  refine lv_iadd hx hb dL_law_2196 ?_
  refine va_sld hx hb hX hbl0 hbA hS (by unfold vp_in; decide) dL_law_2197 ?_
  refine lv_topi (fun s2 es2 => ?_)
  refine lv_i2l hx hb dL_law_2198 rfl ?_
  refine lv_bipush (v := 32) hx hb dL_law_2199 (by decide) ?_
  refine lv_lshl hx hb dL_law_2201 rfl ?_
  refine lv_aload_n hx hb dL_law_2202 rfl (lv_at hl 4 rfl) ?_
  refine lv_iload hx hb dL_law_2203 (lv_at hl 0 rfl) ?_
  refine lv_iconst (v := 3) hx hb dL_law_2205 (by decide) ?_
  refine lv_iadd hx hb dL_law_2206 ?_
  refine va_sld hx hb hX hbl0 hbA hS (by unfold vp_in; decide) dL_law_2207 ?_
  refine lv_topi (fun s3 es3 => ?_)
  refine lv_i2l hx hb dL_law_2208 rfl ?_
  refine lv_ldc2 hx hb C.2.2.2.2.1 (C.2.2.2.2.2.1 _ g1484) dL_law_2209 ?_
  refine lv_land hx hb dL_law_2212 ?_
  refine lv_lor hx hb dL_law_2213 ?_
  refine lv_topl (fun q2 eq2 => ?_)
  refine lv_aload_n hx hb dL_law_2214 rfl (lv_at hl 4 rfl) ?_
  refine lv_iload hx hb dL_law_2215 (lv_at hl 0 rfl) ?_
  refine lv_iconst (v := 4) hx hb dL_law_2217 (by decide) ?_
  refine lv_iadd hx hb dL_law_2218 ?_
  refine va_sld hx hb hX hbl0 hbA hS (by unfold vp_in; decide) dL_law_2219 ?_
  refine lv_topi (fun s4 es4 => ?_)
  refine lv_aload_n hx hb dL_law_2220 rfl (lv_at hl 4 rfl) ?_
  refine lv_iload hx hb dL_law_2221 (lv_at hl 0 rfl) ?_
  refine lv_iconst (v := 5) hx hb dL_law_2223 (by decide) ?_
  refine lv_iadd hx hb dL_law_2224 ?_
  refine va_sld hx hb hX hbl0 hbA hS (by unfold vp_in; decide) dL_law_2225 ?_
  refine lv_topi (fun s5 es5 => ?_)
  refine lv_i2l hx hb dL_law_2226 rfl ?_
  refine lv_bipush (v := 32) hx hb dL_law_2227 (by decide) ?_
  refine lv_lshl hx hb dL_law_2229 rfl ?_
  refine lv_aload_n hx hb dL_law_2230 rfl (lv_at hl 4 rfl) ?_
  refine lv_iload hx hb dL_law_2231 (lv_at hl 0 rfl) ?_
  refine lv_bipush (v := 6) hx hb dL_law_2233 (by decide) ?_
  refine lv_iadd hx hb dL_law_2235 ?_
  refine va_sld hx hb hX hbl0 hbA hS (by unfold vp_in; decide) dL_law_2236 ?_
  refine lv_topi (fun s6 es6 => ?_)
  refine lv_i2l hx hb dL_law_2237 rfl ?_
  refine lv_ldc2 hx hb C.2.2.2.2.1 (C.2.2.2.2.2.1 _ g1484) dL_law_2238 ?_
  refine lv_land hx hb dL_law_2241 ?_
  refine lv_lor hx hb dL_law_2242 ?_
  refine lv_topl (fun q5 eq5 => ?_)
  refine q_callSW (rest := []) C (c_L_iterate_0 l D cy N0 (h) x sl bl kr vr hm 0 0 ed f s1 q2 s4 q5 hT hsl) kwL_iterate g966 g967 hP hS (by omega) hl.1 rfl (by decide) (by omega) dL_law_2243 (fun v hh1 H locs hq hP hS => ?_)
  rcases hq with ⟨rfl, gA, rfl⟩ | ⟨rfl, gA, hlq⟩
  · refine lv_istore (lv' := [(5, .int 1), (4, .int 1), (3, .ref o), (2, .ref y), (1, .ref x), (0, .ref b)]) hx hb dL_law_2246 hl (by decide) rfl (fun ls hl => ?_)
    refine lv_aload_n hx hb dL_law_2248 rfl (lv_at hl 3 rfl) ?_
    refine lv_aload_n hx hb dL_law_2249 rfl (lv_at hl 5 rfl) ?_
    refine lv_iload hx hb dL_law_2250 (lv_at hl 1 rfl) ?_
    refine lv_iconst (v := 1) hx hb dL_law_2252 (by decide) ?_
    refine lv_iadd hx hb dL_law_2253 ?_
    refine va_sld hx hb hX hbl0 hbA hS (by unfold vp_in; decide) dL_law_2254 ?_
    rw [← es1]
    refine lv_aload_n hx hb dL_law_2255 rfl (lv_at hl 5 rfl) ?_
    refine lv_iload hx hb dL_law_2256 (lv_at hl 1 rfl) ?_
    refine lv_iconst (v := 2) hx hb dL_law_2258 (by decide) ?_
    refine lv_iadd hx hb dL_law_2259 ?_
    refine va_sld hx hb hX hbl0 hbA hS (by unfold vp_in; decide) dL_law_2260 ?_
    rw [← es2]
    refine lv_i2l hx hb dL_law_2261 rfl ?_
    refine lv_bipush (v := 32) hx hb dL_law_2262 (by decide) ?_
    refine lv_lshl hx hb dL_law_2264 rfl ?_
    refine lv_aload_n hx hb dL_law_2265 rfl (lv_at hl 5 rfl) ?_
    refine lv_iload hx hb dL_law_2266 (lv_at hl 1 rfl) ?_
    refine lv_iconst (v := 3) hx hb dL_law_2268 (by decide) ?_
    refine lv_iadd hx hb dL_law_2269 ?_
    refine va_sld hx hb hX hbl0 hbA hS (by unfold vp_in; decide) dL_law_2270 ?_
    rw [← es3]
    refine lv_i2l hx hb dL_law_2271 rfl ?_
    refine lv_ldc2 hx hb C.2.2.2.2.1 (C.2.2.2.2.2.1 _ g1484) dL_law_2272 ?_
    refine lv_land hx hb dL_law_2275 ?_
    refine lv_lor hx hb dL_law_2276 ?_
    rw [← eq2]
    refine lv_aload_n hx hb dL_law_2277 rfl (lv_at hl 5 rfl) ?_
    refine lv_iload hx hb dL_law_2278 (lv_at hl 1 rfl) ?_
    refine lv_iconst (v := 4) hx hb dL_law_2280 (by decide) ?_
    refine lv_iadd hx hb dL_law_2281 ?_
    refine va_sld hx hb hX hbl0 hbA hS (by unfold vp_in; decide) dL_law_2282 ?_
    rw [← es4]
    refine lv_aload_n hx hb dL_law_2283 rfl (lv_at hl 5 rfl) ?_
    refine lv_iload hx hb dL_law_2284 (lv_at hl 1 rfl) ?_
    refine lv_iconst (v := 5) hx hb dL_law_2286 (by decide) ?_
    refine lv_iadd hx hb dL_law_2287 ?_
    refine va_sld hx hb hX hbl0 hbA hS (by unfold vp_in; decide) dL_law_2288 ?_
    rw [← es5]
    refine lv_i2l hx hb dL_law_2289 rfl ?_
    refine lv_bipush (v := 32) hx hb dL_law_2290 (by decide) ?_
    refine lv_lshl hx hb dL_law_2292 rfl ?_
    refine lv_aload_n hx hb dL_law_2293 rfl (lv_at hl 5 rfl) ?_
    refine lv_iload hx hb dL_law_2294 (lv_at hl 1 rfl) ?_
    refine lv_bipush (v := 6) hx hb dL_law_2296 (by decide) ?_
    refine lv_iadd hx hb dL_law_2298 ?_
    refine va_sld hx hb hX hbl0 hbA hS (by unfold vp_in; decide) dL_law_2299 ?_
    rw [← es6]
    refine lv_i2l hx hb dL_law_2300 rfl ?_
    refine lv_ldc2 hx hb C.2.2.2.2.1 (C.2.2.2.2.2.1 _ g1484) dL_law_2301 ?_
    refine lv_land hx hb dL_law_2304 ?_
    refine lv_lor hx hb dL_law_2305 ?_
    rw [← eq5]
    refine q_callV (rest := []) C (c_X8_iterate_0 l D cy N0 (h) y ms_ mb mw od pt fi re rc rs so ot cn la ro gr 0 0 0 0 0 0 f2 g2 s1 q2 s4 q5 hY hms hmb hR hRB hfi hre hrc hso hot hcn hla n_so_rc n_ot_rc n_rc_re n_ot_so n_so_re n_ot_re n_la_cn n_cn_fi n_la_fi) kX8_iterate g1441 g1442 rfl g1443 g4 hP hS hY (by first | decide | omega) hl.1 rfl (by decide) (by first | decide | omega) dL_law_2306 (fun q ce E h' H1 locs1 hE => hE.elim) (fun v hh2 H locs hq hP hS => ?_)
    obtain ⟨rfl, cd', cs', ce', hY8, hq⟩ := hq
    rcases hq with ⟨gB, rfl⟩ | ⟨gB, rfl⟩
    · refine lv_aload_n hx hb dL_law_2309 rfl (lv_at hl 3 rfl) ?_
      refine q_callV (rest := []) C (c_X8_thrown l D cy N0 (hh2) y ms_ mb mw od pt fi re rc rs so ot cn la ro gr 1 0 0 0 0 cs' ce' 0 hY8) kX8_thrown g1238 g1239 rfl g1240 g4 hP hS hY8 (by first | decide | omega) hl.1 rfl (by decide) (by first | decide | omega) dL_law_2310 (fun q ce E h' H1 locs1 hE => hE.elim) (fun v hh3 H locs hq hP hS => ?_)
      obtain ⟨rfl, rfl⟩ := hq
      refine lv_iload hx hb dL_law_2313 (lv_at hl 0 rfl) ?_
      refine lv_icmp_eq (tgt := 2320) hx hb dL_law_2315 (by decide) (fun _ => ?_) (fun c9 => absurd rfl c9)
      refine lv_goto (tgt := 2940) hx hb dL_law_2320 (by decide) ?_
      exact kend ls H locs _ _ (by omega) (by omega) hS (lv_sub hl [1, 5] rfl)
    · exact absurd gB gA
  · refine lv_istore (lv' := [(5, .int 0), (4, .int 1), (3, .ref o), (2, .ref y), (1, .ref x), (0, .ref b)]) hx hb dL_law_2246 hl (by decide) rfl (fun ls hl => ?_)
    refine lv_aload_n hx hb dL_law_2248 rfl (lv_at hl 3 rfl) ?_
    refine lv_aload_n hx hb dL_law_2249 rfl (lv_at hl 5 rfl) ?_
    refine lv_iload hx hb dL_law_2250 (lv_at hl 1 rfl) ?_
    refine lv_iconst (v := 1) hx hb dL_law_2252 (by decide) ?_
    refine lv_iadd hx hb dL_law_2253 ?_
    refine va_sld hx hb hX hbl0 hbA hS (by unfold vp_in; decide) dL_law_2254 ?_
    rw [← es1]
    refine lv_aload_n hx hb dL_law_2255 rfl (lv_at hl 5 rfl) ?_
    refine lv_iload hx hb dL_law_2256 (lv_at hl 1 rfl) ?_
    refine lv_iconst (v := 2) hx hb dL_law_2258 (by decide) ?_
    refine lv_iadd hx hb dL_law_2259 ?_
    refine va_sld hx hb hX hbl0 hbA hS (by unfold vp_in; decide) dL_law_2260 ?_
    rw [← es2]
    refine lv_i2l hx hb dL_law_2261 rfl ?_
    refine lv_bipush (v := 32) hx hb dL_law_2262 (by decide) ?_
    refine lv_lshl hx hb dL_law_2264 rfl ?_
    refine lv_aload_n hx hb dL_law_2265 rfl (lv_at hl 5 rfl) ?_
    refine lv_iload hx hb dL_law_2266 (lv_at hl 1 rfl) ?_
    refine lv_iconst (v := 3) hx hb dL_law_2268 (by decide) ?_
    refine lv_iadd hx hb dL_law_2269 ?_
    refine va_sld hx hb hX hbl0 hbA hS (by unfold vp_in; decide) dL_law_2270 ?_
    rw [← es3]
    refine lv_i2l hx hb dL_law_2271 rfl ?_
    refine lv_ldc2 hx hb C.2.2.2.2.1 (C.2.2.2.2.2.1 _ g1484) dL_law_2272 ?_
    refine lv_land hx hb dL_law_2275 ?_
    refine lv_lor hx hb dL_law_2276 ?_
    rw [← eq2]
    refine lv_aload_n hx hb dL_law_2277 rfl (lv_at hl 5 rfl) ?_
    refine lv_iload hx hb dL_law_2278 (lv_at hl 1 rfl) ?_
    refine lv_iconst (v := 4) hx hb dL_law_2280 (by decide) ?_
    refine lv_iadd hx hb dL_law_2281 ?_
    refine va_sld hx hb hX hbl0 hbA hS (by unfold vp_in; decide) dL_law_2282 ?_
    rw [← es4]
    refine lv_aload_n hx hb dL_law_2283 rfl (lv_at hl 5 rfl) ?_
    refine lv_iload hx hb dL_law_2284 (lv_at hl 1 rfl) ?_
    refine lv_iconst (v := 5) hx hb dL_law_2286 (by decide) ?_
    refine lv_iadd hx hb dL_law_2287 ?_
    refine va_sld hx hb hX hbl0 hbA hS (by unfold vp_in; decide) dL_law_2288 ?_
    rw [← es5]
    refine lv_i2l hx hb dL_law_2289 rfl ?_
    refine lv_bipush (v := 32) hx hb dL_law_2290 (by decide) ?_
    refine lv_lshl hx hb dL_law_2292 rfl ?_
    refine lv_aload_n hx hb dL_law_2293 rfl (lv_at hl 5 rfl) ?_
    refine lv_iload hx hb dL_law_2294 (lv_at hl 1 rfl) ?_
    refine lv_bipush (v := 6) hx hb dL_law_2296 (by decide) ?_
    refine lv_iadd hx hb dL_law_2298 ?_
    refine va_sld hx hb hX hbl0 hbA hS (by unfold vp_in; decide) dL_law_2299 ?_
    rw [← es6]
    refine lv_i2l hx hb dL_law_2300 rfl ?_
    refine lv_ldc2 hx hb C.2.2.2.2.1 (C.2.2.2.2.2.1 _ g1484) dL_law_2301 ?_
    refine lv_land hx hb dL_law_2304 ?_
    refine lv_lor hx hb dL_law_2305 ?_
    rw [← eq5]
    have hl9 : ∀ a o, h a = some o → a ≠ sl → hh1 a = some o := fun a o e n => hlq _ _ (qdel_at e n)
    have hY9 := hl9 _ _ hY (fun q => by subst q; have := hY.symm.trans hsl; cases this)
    have hms9 := hl9 _ _ hms n_ms_sl
    have hR9 := hR.keep (fun a9 f9 h9 => hl9 _ _ h9 (fun q => by subst q; have := h9.symm.trans hsl; cases this))
    have hRB9 := hRB.keep (fun a9 f9 h9 => hl9 _ _ h9 (fun q => by subst q; have := h9.symm.trans hsl; cases this))
    have hmb9 := hl9 _ _ hmb n_mb_sl
    have hfi9 := hl9 _ _ hfi (fun q => by subst q; have := hfi.symm.trans hsl; first | cases this | simp at this)
    have hre9 := hl9 _ _ hre (fun q => by subst q; have := hre.symm.trans hsl; first | cases this | simp at this)
    have hrc9 := hl9 _ _ hrc (fun q => by subst q; have := hrc.symm.trans hsl; first | cases this | simp at this)
    have hso9 := hl9 _ _ hso (fun q => by subst q; have := hso.symm.trans hsl; first | cases this | simp at this)
    have hot9 := hl9 _ _ hot (fun q => by subst q; have := hot.symm.trans hsl; first | cases this | simp at this)
    have hcn9 := hl9 _ _ hcn (fun q => by subst q; have := hcn.symm.trans hsl; first | cases this | simp at this)
    have hla9 := hl9 _ _ hla (fun q => by subst q; have := hla.symm.trans hsl; first | cases this | simp at this)
    refine q_callV (rest := []) C (c_X8_iterate_0 l D cy N0 (hh1) y ms_ mb mw od pt fi re rc rs so ot cn la ro gr 0 0 0 0 0 0 f2 g2 s1 q2 s4 q5 hY9 hms9 hmb9 hR9 hRB9 hfi9 hre9 hrc9 hso9 hot9 hcn9 hla9 n_so_rc n_ot_rc n_rc_re n_ot_so n_so_re n_ot_re n_la_cn n_cn_fi n_la_fi) kX8_iterate g1441 g1442 rfl g1443 g4 hP hS hY9 (by first | decide | omega) hl.1 rfl (by decide) (by first | decide | omega) dL_law_2306 (fun q ce E h' H1 locs1 hE => hE.elim) (fun v hh4 H locs hq hP hS => ?_)
    obtain ⟨rfl, cd', cs', ce', hY8, hq⟩ := hq
    rcases hq with ⟨gB, rfl⟩ | ⟨gB, rfl⟩
    · exact absurd gA gB
    · refine lv_aload_n hx hb dL_law_2309 rfl (lv_at hl 3 rfl) ?_
      refine q_callV (rest := []) C (c_X8_thrown l D cy N0 (hh4) y ms_ mb mw od pt fi re rc rs so ot cn la ro gr 0 0 0 0 0 cs' ce' 0 hY8) kX8_thrown g1238 g1239 rfl g1240 g4 hP hS hY8 (by first | decide | omega) hl.1 rfl (by decide) (by first | decide | omega) dL_law_2310 (fun q ce E h' H1 locs1 hE => hE.elim) (fun v hh5 H locs hq hP hS => ?_)
      obtain ⟨rfl, rfl⟩ := hq
      refine lv_iload hx hb dL_law_2313 (lv_at hl 0 rfl) ?_
      refine lv_icmp_eq (tgt := 2320) hx hb dL_law_2315 (by decide) (fun _ => ?_) (fun c9 => absurd rfl c9)
      refine lv_goto (tgt := 2940) hx hb dL_law_2320 (by decide) ?_
      exact kend ls H locs _ _ (by omega) (by omega) hS (lv_sub hl [1, 5] rfl)

theorem dL_law_2323 : decode cL_law 2323 = .ok (.aload_n 1, 1) := by decide +kernel
theorem dL_law_2324 : decode cL_law 2324 = .ok (.aload_n 0, 1) := by decide +kernel
theorem dL_law_2325 : decode cL_law 2325 = .ok (.iload 4, 2) := by decide +kernel
theorem dL_law_2327 : decode cL_law 2327 = .ok (.iconst 1, 1) := by decide +kernel
theorem dL_law_2328 : decode cL_law 2328 = .ok (.iadd, 1) := by decide +kernel
theorem dL_law_2329 : decode cL_law 2329 = .ok (.iaload, 1) := by decide +kernel
theorem dL_law_2330 : decode cL_law 2330 = .ok (.aload_n 0, 1) := by decide +kernel
theorem dL_law_2331 : decode cL_law 2331 = .ok (.iload 4, 2) := by decide +kernel
theorem dL_law_2333 : decode cL_law 2333 = .ok (.iconst 2, 1) := by decide +kernel
theorem dL_law_2334 : decode cL_law 2334 = .ok (.iadd, 1) := by decide +kernel
theorem dL_law_2335 : decode cL_law 2335 = .ok (.iaload, 1) := by decide +kernel
theorem dL_law_2336 : decode cL_law 2336 = .ok (.aload_n 0, 1) := by decide +kernel
theorem dL_law_2337 : decode cL_law 2337 = .ok (.iload 4, 2) := by decide +kernel
theorem dL_law_2339 : decode cL_law 2339 = .ok (.iconst 3, 1) := by decide +kernel
theorem dL_law_2340 : decode cL_law 2340 = .ok (.iadd, 1) := by decide +kernel
theorem dL_law_2341 : decode cL_law 2341 = .ok (.iaload, 1) := by decide +kernel
theorem dL_law_2342 : decode cL_law 2342 = .ok (.invokestatic 231, 3) := by decide +kernel
theorem dL_law_2345 : decode cL_law 2345 = .ok (.istore 5, 2) := by decide +kernel
theorem dL_law_2347 : decode cL_law 2347 = .ok (.aload_n 2, 1) := by decide +kernel
theorem dL_law_2348 : decode cL_law 2348 = .ok (.aload_n 0, 1) := by decide +kernel
theorem dL_law_2349 : decode cL_law 2349 = .ok (.iload 4, 2) := by decide +kernel
theorem dL_law_2351 : decode cL_law 2351 = .ok (.iconst 1, 1) := by decide +kernel
theorem dL_law_2352 : decode cL_law 2352 = .ok (.iadd, 1) := by decide +kernel
theorem dL_law_2353 : decode cL_law 2353 = .ok (.iaload, 1) := by decide +kernel
theorem dL_law_2354 : decode cL_law 2354 = .ok (.aload_n 0, 1) := by decide +kernel
theorem dL_law_2355 : decode cL_law 2355 = .ok (.iload 4, 2) := by decide +kernel
theorem dL_law_2357 : decode cL_law 2357 = .ok (.iconst 2, 1) := by decide +kernel
theorem dL_law_2358 : decode cL_law 2358 = .ok (.iadd, 1) := by decide +kernel
theorem dL_law_2359 : decode cL_law 2359 = .ok (.iaload, 1) := by decide +kernel
theorem dL_law_2360 : decode cL_law 2360 = .ok (.aload_n 0, 1) := by decide +kernel
theorem dL_law_2361 : decode cL_law 2361 = .ok (.iload 4, 2) := by decide +kernel
theorem dL_law_2363 : decode cL_law 2363 = .ok (.iconst 3, 1) := by decide +kernel
theorem dL_law_2364 : decode cL_law 2364 = .ok (.iadd, 1) := by decide +kernel
theorem dL_law_2365 : decode cL_law 2365 = .ok (.iaload, 1) := by decide +kernel
theorem dL_law_2366 : decode cL_law 2366 = .ok (.invokevirtual 234, 3) := by decide +kernel
theorem dL_law_2369 : decode cL_law 2369 = .ok (.aload_n 2, 1) := by decide +kernel
theorem dL_law_2370 : decode cL_law 2370 = .ok (.invokevirtual 147, 3) := by decide +kernel
theorem dL_law_2373 : decode cL_law 2373 = .ok (.iload 5, 2) := by decide +kernel
theorem dL_law_2375 : decode cL_law 2375 = .ok (.if_icmp .eq 5, 3) := by decide +kernel
theorem dL_law_2380 : decode cL_law 2380 = .ok (.goto 560, 3) := by decide +kernel
set_option maxRecDepth 100000 in
set_option maxHeartbeats 4000000 in
theorem lc_take {p : Program} {l : Launch} {e : Env} {mc ms : Nat} {s : State} {m : MethodId} {below : List Frame} {meth : Method} {c : Code} {H : Heap} {locs : List Loc} {cells slots : Nat} {Q : State → Prop} {rt0 : Option FieldType} {nm0 : String} {D : va_G} {cy : Nat → ClassId} {N0 : Nat} {tb : List ExceptionTableEntry} {h : qH} {ls : Array Slot} {b : Nat} {xs : Nat → Int32} {x sl bl kr vr : Nat} {hm ed : Int32} {f g : Nat → Option Nat} {y ms_ mb mw od pt fi re rc rs so ot cn la ro : Nat} {gr : Int32} {f2 g2 : Nat → Option Nat} {o : Nat} {fo : Nat → Int64} (C : qX p l s m #[Value.ref b] meth c RL cL_law 8 rt0 nm0 D cy N0 tb) (hX : va_X b 8 xs s s.heap) (hbl0 : b < s.heap.size) (hbA : ¬ qA N0 b) (hP : qP D N0 h H) (hS : va_S (qA N0) s.heap H locs) (hcm : cells + 20 ≤ mc) (hsm : slots + 200 ≤ ms) (hT : h x = some (.inr (6, [.int hm, .ref sl, .ref bl, .ref kr, .ref vr, .int 0, .int 0, .int ed]))) (hsl : h sl = some (.inl (cy 3, 24, .inr (.inr (.inr (.inr f)))))) (hF : ∀ i, i < 24 → f i = none) (hbl : h bl = some (.inl (cy 2, 4, .inr (.inr (.inr (.inr g)))))) (hB : ∀ j, j < 4 → ∃ (b rw : Nat) (kd ln e2 : Int32) (rt : Option Nat), qBd h g j b rw 0 kd ln e2 rt) (hY : h y = some (.inr (8, [.ref ms_, .ref mb, .ref mw, .int gr, .int 0, .int 0, .int 0, .ref od, .ref pt, .int 0, .int 0, .ref fi, .ref re, .int (nI 1), .ref rc, .ref rs, .ref so, .ref ot, .ref cn, .ref la, .int (nI 1), .ref ro, .int 0]))) (hms : h ms_ = some (.inl (cy 5, 24, .inr (.inr (.inr (.inr f2)))))) (hmb : h mb = some (.inl (cy 5, 4, .inr (.inr (.inr (.inr g2)))))) (hR : qRo h f2 24) (hRB : qRo h g2 4) (ho : h o = some (.inl (cy 1, 1, .inr (.inl fo)))) (hfi : h fi = some (.inl (cy 1, 1024, .inr (.inl (fun _ => 0))))) (hre : h re = some (.inl (cy 0, 1024, .inl (fun _ => 0)))) (hrc : h rc = some (.inl (cy 0, 1024, .inl (fun _ => 0)))) (hso : h so = some (.inl (cy 0, 1024, .inl (fun _ => 0)))) (hot : h ot = some (.inl (cy 0, 1024, .inl (fun _ => 0)))) (hcn : h cn = some (.inl (cy 1, 1024, .inr (.inl (fun _ => 0))))) (hla : h la = some (.inl (cy 1, 1024, .inr (.inl (fun _ => 0))))) (n_so_rc : rc ≠ so) (n_ot_rc : rc ≠ ot) (n_rc_re : re ≠ rc) (n_ot_so : so ≠ ot) (n_so_re : re ≠ so) (n_ot_re : re ≠ ot) (n_la_cn : cn ≠ la) (n_cn_fi : fi ≠ cn) (n_la_fi : fi ≠ la) (n_ms_sl : ms_ ≠ sl) (n_mb_sl : mb ≠ sl) (hl : lv_has ls 8 [(4, .int 1), (3, .ref o), (2, .ref y), (1, .ref x), (0, .ref b)]) (kend : ∀ (ls : Array Slot) (H : Heap) (locs : List Loc) (ce sl : Nat), ce ≤ cells + 20 → sl ≤ slots + 200 → va_S (qA N0) s.heap H locs → lv_has ls 8 [(4, .int 1), (0, .ref b)] → W p l e (qR 2048 84000 mc ms) s m #[Value.ref b] below meth c H locs ce sl Q (F0 m 2940 ls [])) : W p l e (qR 2048 84000 mc ms) s m #[Value.ref b] below meth c H locs cells slots Q (F0 m 2323 ls []) := by
  have hx := C.1
  have hb := C.2.1
  refine lv_aload_n hx hb dL_law_2323 rfl (lv_at hl 3 rfl) ?_
  refine lv_aload_n hx hb dL_law_2324 rfl (lv_at hl 4 rfl) ?_
  refine lv_iload hx hb dL_law_2325 (lv_at hl 0 rfl) ?_
  refine lv_iconst (v := 1) hx hb dL_law_2327 (by decide) ?_
  refine lv_iadd hx hb dL_law_2328 ?_
  refine va_sld hx hb hX hbl0 hbA hS (by unfold vp_in; decide) dL_law_2329 ?_
  refine lv_topi (fun s1 es1 => ?_)
  refine lv_aload_n hx hb dL_law_2330 rfl (lv_at hl 4 rfl) ?_
  refine lv_iload hx hb dL_law_2331 (lv_at hl 0 rfl) ?_
  refine lv_iconst (v := 2) hx hb dL_law_2333 (by decide) ?_
  refine lv_iadd hx hb dL_law_2334 ?_
  refine va_sld hx hb hX hbl0 hbA hS (by unfold vp_in; decide) dL_law_2335 ?_
  refine lv_topi (fun s2 es2 => ?_)
  refine lv_aload_n hx hb dL_law_2336 rfl (lv_at hl 4 rfl) ?_
  refine lv_iload hx hb dL_law_2337 (lv_at hl 0 rfl) ?_
  refine lv_iconst (v := 3) hx hb dL_law_2339 (by decide) ?_
  refine lv_iadd hx hb dL_law_2340 ?_
  refine va_sld hx hb hX hbl0 hbA hS (by unfold vp_in; decide) dL_law_2341 ?_
  refine lv_topi (fun s3 es3 => ?_)
  refine q_callSW (rest := []) C (c_L_take_0 l D cy N0 (h) x sl bl kr vr hm 0 0 ed f s1 s2 s3 hT hsl hF) kwL_take g973 g974 hP hS (by omega) hl.1 rfl (by decide) (by omega) dL_law_2342 (fun v hh1 H locs hq hP hS => ?_)
  obtain ⟨rfl, hq⟩ := hq
  rcases hq with ⟨rfl, gA⟩ | ⟨rfl, gA⟩
  · refine lv_istore (lv' := [(5, .int 1), (4, .int 1), (3, .ref o), (2, .ref y), (1, .ref x), (0, .ref b)]) hx hb dL_law_2345 hl (by decide) rfl (fun ls hl => ?_)
    refine lv_aload_n hx hb dL_law_2347 rfl (lv_at hl 3 rfl) ?_
    refine lv_aload_n hx hb dL_law_2348 rfl (lv_at hl 5 rfl) ?_
    refine lv_iload hx hb dL_law_2349 (lv_at hl 1 rfl) ?_
    refine lv_iconst (v := 1) hx hb dL_law_2351 (by decide) ?_
    refine lv_iadd hx hb dL_law_2352 ?_
    refine va_sld hx hb hX hbl0 hbA hS (by unfold vp_in; decide) dL_law_2353 ?_
    rw [← es1]
    refine lv_aload_n hx hb dL_law_2354 rfl (lv_at hl 5 rfl) ?_
    refine lv_iload hx hb dL_law_2355 (lv_at hl 1 rfl) ?_
    refine lv_iconst (v := 2) hx hb dL_law_2357 (by decide) ?_
    refine lv_iadd hx hb dL_law_2358 ?_
    refine va_sld hx hb hX hbl0 hbA hS (by unfold vp_in; decide) dL_law_2359 ?_
    rw [← es2]
    refine lv_aload_n hx hb dL_law_2360 rfl (lv_at hl 5 rfl) ?_
    refine lv_iload hx hb dL_law_2361 (lv_at hl 1 rfl) ?_
    refine lv_iconst (v := 3) hx hb dL_law_2363 (by decide) ?_
    refine lv_iadd hx hb dL_law_2364 ?_
    refine va_sld hx hb hX hbl0 hbA hS (by unfold vp_in; decide) dL_law_2365 ?_
    rw [← es3]
    refine q_callV (rest := []) C (c_X8_take_0 l D cy N0 (h) y ms_ mb mw od pt fi re rc rs so ot cn la ro gr 0 0 0 0 0 (nI 1) (nI 1) 0 f2 g2 s1 s2 s3 hY hms hmb hR hRB) kX8_take g1445 g1446 rfl g1447 g4 hP hS hY (by first | decide | omega) hl.1 rfl (by decide) (by first | decide | omega) dL_law_2366 (fun q ce E h' H1 locs1 hE => hE.elim) (fun v hh2 H locs hq hP hS => ?_)
    obtain ⟨cd', rfl, rfl, hq⟩ := hq
    rcases hq with ⟨gB, rfl⟩ | ⟨gB, rfl⟩
    · replace hT := (qs_ne (h := h) (a := y) (o := (.inr (8, [.ref ms_, .ref mb, .ref mw, .int gr, .int 1, .int 0, .int 0, .ref od, .ref pt, .int 0, .int 0, .ref fi, .ref re, .int (nI 1), .ref rc, .ref rs, .ref so, .ref ot, .ref cn, .ref la, .int (nI 1), .ref ro, .int 0]))) (fun q => by subst q; have := hT.symm.trans hY; first | cases this | simp at this)).trans hT
      replace hsl := (qs_ne (h := h) (a := y) (o := (.inr (8, [.ref ms_, .ref mb, .ref mw, .int gr, .int 1, .int 0, .int 0, .ref od, .ref pt, .int 0, .int 0, .ref fi, .ref re, .int (nI 1), .ref rc, .ref rs, .ref so, .ref ot, .ref cn, .ref la, .int (nI 1), .ref ro, .int 0]))) (fun q => by subst q; have := hsl.symm.trans hY; first | cases this | simp at this)).trans hsl
      replace ho := (qs_ne (h := h) (a := y) (o := (.inr (8, [.ref ms_, .ref mb, .ref mw, .int gr, .int 1, .int 0, .int 0, .ref od, .ref pt, .int 0, .int 0, .ref fi, .ref re, .int (nI 1), .ref rc, .ref rs, .ref so, .ref ot, .ref cn, .ref la, .int (nI 1), .ref ro, .int 0]))) (fun q => by subst q; have := ho.symm.trans hY; first | cases this | simp at this)).trans ho
      replace hY : (qs h y (.inr (8, [.ref ms_, .ref mb, .ref mw, .int gr, .int 1, .int 0, .int 0, .ref od, .ref pt, .int 0, .int 0, .ref fi, .ref re, .int (nI 1), .ref rc, .ref rs, .ref so, .ref ot, .ref cn, .ref la, .int (nI 1), .ref ro, .int 0]))) y = some (.inr (8, [.ref ms_, .ref mb, .ref mw, .int gr, .int 1, .int 0, .int 0, .ref od, .ref pt, .int 0, .int 0, .ref fi, .ref re, .int (nI 1), .ref rc, .ref rs, .ref so, .ref ot, .ref cn, .ref la, .int (nI 1), .ref ro, .int 0])) := qs_self
      refine lv_aload_n hx hb dL_law_2369 rfl (lv_at hl 3 rfl) ?_
      refine q_callV (rest := []) C (c_X8_thrown l D cy N0 (qs h y (.inr (8, [.ref ms_, .ref mb, .ref mw, .int gr, .int 1, .int 0, .int 0, .ref od, .ref pt, .int 0, .int 0, .ref fi, .ref re, .int (nI 1), .ref rc, .ref rs, .ref so, .ref ot, .ref cn, .ref la, .int (nI 1), .ref ro, .int 0]))) y ms_ mb mw od pt fi re rc rs so ot cn la ro gr 1 0 0 0 0 (nI 1) (nI 1) 0 hY) kX8_thrown g1238 g1239 rfl g1240 g4 hP hS hY (by first | decide | omega) hl.1 rfl (by decide) (by first | decide | omega) dL_law_2370 (fun q ce E h' H1 locs1 hE => hE.elim) (fun v hh3 H locs hq hP hS => ?_)
      obtain ⟨rfl, rfl⟩ := hq
      refine lv_iload hx hb dL_law_2373 (lv_at hl 0 rfl) ?_
      refine lv_icmp_eq (tgt := 2380) hx hb dL_law_2375 (by decide) (fun _ => ?_) (fun c9 => absurd rfl c9)
      refine lv_goto (tgt := 2940) hx hb dL_law_2380 (by decide) ?_
      exact kend ls H locs _ _ (by omega) (by omega) hS (lv_sub hl [1, 5] rfl)
    · exact absurd gB gA
  · refine lv_istore (lv' := [(5, .int 2), (4, .int 1), (3, .ref o), (2, .ref y), (1, .ref x), (0, .ref b)]) hx hb dL_law_2345 hl (by decide) rfl (fun ls hl => ?_)
    refine lv_aload_n hx hb dL_law_2347 rfl (lv_at hl 3 rfl) ?_
    refine lv_aload_n hx hb dL_law_2348 rfl (lv_at hl 5 rfl) ?_
    refine lv_iload hx hb dL_law_2349 (lv_at hl 1 rfl) ?_
    refine lv_iconst (v := 1) hx hb dL_law_2351 (by decide) ?_
    refine lv_iadd hx hb dL_law_2352 ?_
    refine va_sld hx hb hX hbl0 hbA hS (by unfold vp_in; decide) dL_law_2353 ?_
    rw [← es1]
    refine lv_aload_n hx hb dL_law_2354 rfl (lv_at hl 5 rfl) ?_
    refine lv_iload hx hb dL_law_2355 (lv_at hl 1 rfl) ?_
    refine lv_iconst (v := 2) hx hb dL_law_2357 (by decide) ?_
    refine lv_iadd hx hb dL_law_2358 ?_
    refine va_sld hx hb hX hbl0 hbA hS (by unfold vp_in; decide) dL_law_2359 ?_
    rw [← es2]
    refine lv_aload_n hx hb dL_law_2360 rfl (lv_at hl 5 rfl) ?_
    refine lv_iload hx hb dL_law_2361 (lv_at hl 1 rfl) ?_
    refine lv_iconst (v := 3) hx hb dL_law_2363 (by decide) ?_
    refine lv_iadd hx hb dL_law_2364 ?_
    refine va_sld hx hb hX hbl0 hbA hS (by unfold vp_in; decide) dL_law_2365 ?_
    rw [← es3]
    refine q_callV (rest := []) C (c_X8_take_0 l D cy N0 (h) y ms_ mb mw od pt fi re rc rs so ot cn la ro gr 0 0 0 0 0 (nI 1) (nI 1) 0 f2 g2 s1 s2 s3 hY hms hmb hR hRB) kX8_take g1445 g1446 rfl g1447 g4 hP hS hY (by first | decide | omega) hl.1 rfl (by decide) (by first | decide | omega) dL_law_2366 (fun q ce E h' H1 locs1 hE => hE.elim) (fun v hh4 H locs hq hP hS => ?_)
    obtain ⟨cd', rfl, rfl, hq⟩ := hq
    rcases hq with ⟨gB, rfl⟩ | ⟨gB, rfl⟩
    · exact absurd gA gB
    · replace hT := (qs_ne (h := h) (a := y) (o := (.inr (8, [.ref ms_, .ref mb, .ref mw, .int gr, .int 2, .int 0, .int 0, .ref od, .ref pt, .int 0, .int 0, .ref fi, .ref re, .int (nI 1), .ref rc, .ref rs, .ref so, .ref ot, .ref cn, .ref la, .int (nI 1), .ref ro, .int 0]))) (fun q => by subst q; have := hT.symm.trans hY; first | cases this | simp at this)).trans hT
      replace hsl := (qs_ne (h := h) (a := y) (o := (.inr (8, [.ref ms_, .ref mb, .ref mw, .int gr, .int 2, .int 0, .int 0, .ref od, .ref pt, .int 0, .int 0, .ref fi, .ref re, .int (nI 1), .ref rc, .ref rs, .ref so, .ref ot, .ref cn, .ref la, .int (nI 1), .ref ro, .int 0]))) (fun q => by subst q; have := hsl.symm.trans hY; first | cases this | simp at this)).trans hsl
      replace ho := (qs_ne (h := h) (a := y) (o := (.inr (8, [.ref ms_, .ref mb, .ref mw, .int gr, .int 2, .int 0, .int 0, .ref od, .ref pt, .int 0, .int 0, .ref fi, .ref re, .int (nI 1), .ref rc, .ref rs, .ref so, .ref ot, .ref cn, .ref la, .int (nI 1), .ref ro, .int 0]))) (fun q => by subst q; have := ho.symm.trans hY; first | cases this | simp at this)).trans ho
      replace hY : (qs h y (.inr (8, [.ref ms_, .ref mb, .ref mw, .int gr, .int 2, .int 0, .int 0, .ref od, .ref pt, .int 0, .int 0, .ref fi, .ref re, .int (nI 1), .ref rc, .ref rs, .ref so, .ref ot, .ref cn, .ref la, .int (nI 1), .ref ro, .int 0]))) y = some (.inr (8, [.ref ms_, .ref mb, .ref mw, .int gr, .int 2, .int 0, .int 0, .ref od, .ref pt, .int 0, .int 0, .ref fi, .ref re, .int (nI 1), .ref rc, .ref rs, .ref so, .ref ot, .ref cn, .ref la, .int (nI 1), .ref ro, .int 0])) := qs_self
      refine lv_aload_n hx hb dL_law_2369 rfl (lv_at hl 3 rfl) ?_
      refine q_callV (rest := []) C (c_X8_thrown l D cy N0 (qs h y (.inr (8, [.ref ms_, .ref mb, .ref mw, .int gr, .int 2, .int 0, .int 0, .ref od, .ref pt, .int 0, .int 0, .ref fi, .ref re, .int (nI 1), .ref rc, .ref rs, .ref so, .ref ot, .ref cn, .ref la, .int (nI 1), .ref ro, .int 0]))) y ms_ mb mw od pt fi re rc rs so ot cn la ro gr 2 0 0 0 0 (nI 1) (nI 1) 0 hY) kX8_thrown g1238 g1239 rfl g1240 g4 hP hS hY (by first | decide | omega) hl.1 rfl (by decide) (by first | decide | omega) dL_law_2370 (fun q ce E h' H1 locs1 hE => hE.elim) (fun v hh5 H locs hq hP hS => ?_)
      obtain ⟨rfl, rfl⟩ := hq
      refine lv_iload hx hb dL_law_2373 (lv_at hl 0 rfl) ?_
      refine lv_icmp_eq (tgt := 2380) hx hb dL_law_2375 (by decide) (fun _ => ?_) (fun c9 => absurd rfl c9)
      refine lv_goto (tgt := 2940) hx hb dL_law_2380 (by decide) ?_
      exact kend ls H locs _ _ (by omega) (by omega) hS (lv_sub hl [1, 5] rfl)
